theorem dX7_init_0 : decode cX7_init 0 = .ok (.aload_n 0, 1) := by decide +kernel
theorem dX7_init_1 : decode cX7_init 1 = .ok (.invokespecial 1, 3) := by decide +kernel
theorem dX7_init_4 : decode cX7_init 4 = .ok (.aload_n 0, 1) := by decide +kernel
theorem dX7_init_5 : decode cX7_init 5 = .ok (.bipush 58, 2) := by decide +kernel
theorem dX7_init_7 : decode cX7_init 7 = .ok (.newarray .int, 2) := by decide +kernel
theorem dX7_init_9 : decode cX7_init 9 = .ok (.putfield 7, 3) := by decide +kernel
theorem dX7_init_12 : decode cX7_init 12 = .ok (.aload_n 0, 1) := by decide +kernel
theorem dX7_init_13 : decode cX7_init 13 = .ok (.bipush 116, 2) := by decide +kernel
theorem dX7_init_15 : decode cX7_init 15 = .ok (.newarray .int, 2) := by decide +kernel
theorem dX7_init_17 : decode cX7_init 17 = .ok (.putfield 13, 3) := by decide +kernel
theorem dX7_init_20 : decode cX7_init 20 = .ok (.aload_n 0, 1) := by decide +kernel
theorem dX7_init_21 : decode cX7_init 21 = .ok (.iconst 2, 1) := by decide +kernel
theorem dX7_init_22 : decode cX7_init 22 = .ok (.newarray .boolean, 2) := by decide +kernel
theorem dX7_init_24 : decode cX7_init 24 = .ok (.putfield 16, 3) := by decide +kernel
theorem dX7_init_27 : decode cX7_init 27 = .ok (.aload_n 0, 1) := by decide +kernel
theorem dX7_init_28 : decode cX7_init 28 = .ok (.sipush 348, 3) := by decide +kernel
theorem dX7_init_31 : decode cX7_init 31 = .ok (.newarray .int, 2) := by decide +kernel
theorem dX7_init_33 : decode cX7_init 33 = .ok (.putfield 20, 3) := by decide +kernel
theorem dX7_init_36 : decode cX7_init 36 = .ok (.aload_n 0, 1) := by decide +kernel
theorem dX7_init_37 : decode cX7_init 37 = .ok (.bipush 60, 2) := by decide +kernel
theorem dX7_init_39 : decode cX7_init 39 = .ok (.newarray .int, 2) := by decide +kernel
theorem dX7_init_41 : decode cX7_init 41 = .ok (.putfield 23, 3) := by decide +kernel
theorem dX7_init_44 : decode cX7_init 44 = .ok (.aload_n 0, 1) := by decide +kernel
theorem dX7_init_45 : decode cX7_init 45 = .ok (.bipush 10, 2) := by decide +kernel
theorem dX7_init_47 : decode cX7_init 47 = .ok (.newarray .int, 2) := by decide +kernel
theorem dX7_init_49 : decode cX7_init 49 = .ok (.putfield 26, 3) := by decide +kernel
theorem dX7_init_52 : decode cX7_init 52 = .ok (.iconst 0, 1) := by decide +kernel
theorem dX7_init_53 : decode cX7_init 53 = .ok (.istore_n 1, 1) := by decide +kernel
theorem dX7_init_54 : decode cX7_init 54 = .ok (.iload_n 1, 1) := by decide +kernel
theorem dX7_init_55 : decode cX7_init 55 = .ok (.bipush 6, 2) := by decide +kernel
theorem dX7_init_57 : decode cX7_init 57 = .ok (.if_icmp .ge 19, 3) := by decide +kernel
theorem dX7_init_60 : decode cX7_init 60 = .ok (.aload_n 0, 1) := by decide +kernel
theorem dX7_init_61 : decode cX7_init 61 = .ok (.getfield 7, 3) := by decide +kernel
theorem dX7_init_64 : decode cX7_init 64 = .ok (.bipush 11, 2) := by decide +kernel
theorem dX7_init_66 : decode cX7_init 66 = .ok (.iload_n 1, 1) := by decide +kernel
theorem dX7_init_67 : decode cX7_init 67 = .ok (.iadd, 1) := by decide +kernel
theorem dX7_init_68 : decode cX7_init 68 = .ok (.iload_n 1, 1) := by decide +kernel
theorem dX7_init_69 : decode cX7_init 69 = .ok (.iastore, 1) := by decide +kernel
theorem dX7_init_70 : decode cX7_init 70 = .ok (.iinc 1 1, 3) := by decide +kernel
theorem dX7_init_73 : decode cX7_init 73 = .ok (.goto (-19), 3) := by decide +kernel
theorem dX7_init_76 : decode cX7_init 76 = .ok (.return_, 1) := by decide +kernel
theorem dX7_thrown_0 : decode cX7_thrown 0 = .ok (.aload_n 0, 1) := by decide +kernel
theorem dX7_thrown_1 : decode cX7_thrown 1 = .ok (.getfield 29, 3) := by decide +kernel
theorem dX7_thrown_4 : decode cX7_thrown 4 = .ok (.ireturn, 1) := by decide +kernel
theorem dX7_in_0 : decode cX7_in 0 = .ok (.iload_n 0, 1) := by decide +kernel
theorem dX7_in_1 : decode cX7_in 1 = .ok (.iload_n 1, 1) := by decide +kernel
theorem dX7_in_2 : decode cX7_in 2 = .ok (.if_icmp .lt 12, 3) := by decide +kernel
theorem dX7_in_5 : decode cX7_in 5 = .ok (.iload_n 0, 1) := by decide +kernel
theorem dX7_in_6 : decode cX7_in 6 = .ok (.iload_n 2, 1) := by decide +kernel
theorem dX7_in_7 : decode cX7_in 7 = .ok (.if_icmp .gt 7, 3) := by decide +kernel
theorem dX7_in_10 : decode cX7_in 10 = .ok (.iconst 1, 1) := by decide +kernel
theorem dX7_in_11 : decode cX7_in 11 = .ok (.goto 4, 3) := by decide +kernel
theorem dX7_in_14 : decode cX7_in 14 = .ok (.iconst 0, 1) := by decide +kernel
theorem dX7_in_15 : decode cX7_in 15 = .ok (.ireturn, 1) := by decide +kernel
set_option maxRecDepth 20000 in
theorem ggX7_isTown_X7_in : GoodIn wsX7_isTown wsX7_in := goodIn_r _ [4] (by decide +kernel) (by decide +kernel)
set_option maxRecDepth 20000 in
theorem gX7_isTown_X7_in : GoodIn wsX7_isTown (va_wsS RX7 33 yX7_in wsX7_in) := goodIn_app (goodIn_of _ (by decide +kernel)) ggX7_isTown_X7_in
theorem dX7_isTown_0 : decode cX7_isTown 0 = .ok (.iload_n 0, 1) := by decide +kernel
theorem dX7_isTown_1 : decode cX7_isTown 1 = .ok (.iconst 0, 1) := by decide +kernel
theorem dX7_isTown_2 : decode cX7_isTown 2 = .ok (.iconst 5, 1) := by decide +kernel
theorem dX7_isTown_3 : decode cX7_isTown 3 = .ok (.invokestatic 33, 3) := by decide +kernel
theorem dX7_isTown_6 : decode cX7_isTown 6 = .ok (.ireturn, 1) := by decide +kernel
set_option maxRecDepth 20000 in
theorem ggX7_isCrease_X7_in : GoodIn wsX7_isCrease wsX7_in := goodIn_r _ [4] (by decide +kernel) (by decide +kernel)
set_option maxRecDepth 20000 in
theorem gX7_isCrease_X7_in : GoodIn wsX7_isCrease (va_wsS RX7 33 yX7_in wsX7_in) := goodIn_app (goodIn_of _ (by decide +kernel)) ggX7_isCrease_X7_in
theorem dX7_isCrease_0 : decode cX7_isCrease 0 = .ok (.iload_n 0, 1) := by decide +kernel
theorem dX7_isCrease_1 : decode cX7_isCrease 1 = .ok (.iconst 0, 1) := by decide +kernel
theorem dX7_isCrease_2 : decode cX7_isCrease 2 = .ok (.bipush 8, 2) := by decide +kernel
theorem dX7_isCrease_4 : decode cX7_isCrease 4 = .ok (.invokestatic 33, 3) := by decide +kernel
theorem dX7_isCrease_7 : decode cX7_isCrease 7 = .ok (.ireturn, 1) := by decide +kernel
set_option maxRecDepth 20000 in
theorem ggX7_isPanel_X7_in : GoodIn wsX7_isPanel wsX7_in := goodIn_r _ [4] (by decide +kernel) (by decide +kernel)
set_option maxRecDepth 20000 in
theorem gX7_isPanel_X7_in : GoodIn wsX7_isPanel (va_wsS RX7 33 yX7_in wsX7_in) := goodIn_app (goodIn_of _ (by decide +kernel)) ggX7_isPanel_X7_in
theorem dX7_isPanel_0 : decode cX7_isPanel 0 = .ok (.iload_n 0, 1) := by decide +kernel
theorem dX7_isPanel_1 : decode cX7_isPanel 1 = .ok (.iconst 0, 1) := by decide +kernel
theorem dX7_isPanel_2 : decode cX7_isPanel 2 = .ok (.bipush 9, 2) := by decide +kernel
theorem dX7_isPanel_4 : decode cX7_isPanel 4 = .ok (.invokestatic 33, 3) := by decide +kernel
theorem dX7_isPanel_7 : decode cX7_isPanel 7 = .ok (.ireturn, 1) := by decide +kernel
theorem dX7_holds_0 : decode cX7_holds 0 = .ok (.aload_n 0, 1) := by decide +kernel
theorem dX7_holds_1 : decode cX7_holds 1 = .ok (.iload_n 1, 1) := by decide +kernel
theorem dX7_holds_2 : decode cX7_holds 2 = .ok (.putfield 29, 3) := by decide +kernel
theorem dX7_holds_5 : decode cX7_holds 5 = .ok (.iload_n 1, 1) := by decide +kernel
theorem dX7_holds_6 : decode cX7_holds 6 = .ok (.ifCond .ne 7, 3) := by decide +kernel
theorem dX7_holds_9 : decode cX7_holds 9 = .ok (.iconst 1, 1) := by decide +kernel
theorem dX7_holds_10 : decode cX7_holds 10 = .ok (.goto 4, 3) := by decide +kernel
theorem dX7_holds_13 : decode cX7_holds 13 = .ok (.iconst 0, 1) := by decide +kernel
theorem dX7_holds_14 : decode cX7_holds 14 = .ok (.ireturn, 1) := by decide +kernel
theorem dX7_save_0 : decode cX7_save 0 = .ok (.aload_n 0, 1) := by decide +kernel
theorem dX7_save_1 : decode cX7_save 1 = .ok (.getfield 37, 3) := by decide +kernel
theorem dX7_save_4 : decode cX7_save 4 = .ok (.bipush 6, 2) := by decide +kernel
theorem dX7_save_6 : decode cX7_save 6 = .ok (.if_icmp .ne 43, 3) := by decide +kernel
theorem dX7_save_9 : decode cX7_save 9 = .ok (.iconst 0, 1) := by decide +kernel
theorem dX7_save_10 : decode cX7_save 10 = .ok (.istore_n 1, 1) := by decide +kernel
theorem dX7_save_11 : decode cX7_save 11 = .ok (.iload_n 1, 1) := by decide +kernel
theorem dX7_save_12 : decode cX7_save 12 = .ok (.sipush 290, 3) := by decide +kernel
theorem dX7_save_15 : decode cX7_save 15 = .ok (.if_icmp .ge 24, 3) := by decide +kernel
theorem dX7_save_18 : decode cX7_save 18 = .ok (.aload_n 0, 1) := by decide +kernel
theorem dX7_save_19 : decode cX7_save 19 = .ok (.getfield 20, 3) := by decide +kernel
theorem dX7_save_22 : decode cX7_save 22 = .ok (.iload_n 1, 1) := by decide +kernel
theorem dX7_save_23 : decode cX7_save 23 = .ok (.aload_n 0, 1) := by decide +kernel
theorem dX7_save_24 : decode cX7_save 24 = .ok (.getfield 20, 3) := by decide +kernel
theorem dX7_save_27 : decode cX7_save 27 = .ok (.bipush 58, 2) := by decide +kernel
theorem dX7_save_29 : decode cX7_save 29 = .ok (.iload_n 1, 1) := by decide +kernel
theorem dX7_save_30 : decode cX7_save 30 = .ok (.iadd, 1) := by decide +kernel
theorem dX7_save_31 : decode cX7_save 31 = .ok (.iaload, 1) := by decide +kernel
theorem dX7_save_32 : decode cX7_save 32 = .ok (.iastore, 1) := by decide +kernel
theorem dX7_save_33 : decode cX7_save 33 = .ok (.iinc 1 1, 3) := by decide +kernel
theorem dX7_save_36 : decode cX7_save 36 = .ok (.goto (-25), 3) := by decide +kernel
theorem dX7_save_39 : decode cX7_save 39 = .ok (.aload_n 0, 1) := by decide +kernel
theorem dX7_save_40 : decode cX7_save 40 = .ok (.dup, 1) := by decide +kernel
theorem dX7_save_41 : decode cX7_save 41 = .ok (.getfield 37, 3) := by decide +kernel
theorem dX7_save_44 : decode cX7_save 44 = .ok (.iconst 1, 1) := by decide +kernel
theorem dX7_save_45 : decode cX7_save 45 = .ok (.isub, 1) := by decide +kernel
theorem dX7_save_46 : decode cX7_save 46 = .ok (.putfield 37, 3) := by decide +kernel
theorem dX7_save_49 : decode cX7_save 49 = .ok (.iconst 0, 1) := by decide +kernel
theorem dX7_save_50 : decode cX7_save 50 = .ok (.istore_n 1, 1) := by decide +kernel
theorem dX7_save_51 : decode cX7_save 51 = .ok (.iload_n 1, 1) := by decide +kernel
theorem dX7_save_52 : decode cX7_save 52 = .ok (.bipush 58, 2) := by decide +kernel
theorem dX7_save_54 : decode cX7_save 54 = .ok (.if_icmp .ge 29, 3) := by decide +kernel
theorem dX7_save_57 : decode cX7_save 57 = .ok (.aload_n 0, 1) := by decide +kernel
theorem dX7_save_58 : decode cX7_save 58 = .ok (.getfield 20, 3) := by decide +kernel
theorem dX7_save_61 : decode cX7_save 61 = .ok (.bipush 58, 2) := by decide +kernel
theorem dX7_save_63 : decode cX7_save 63 = .ok (.aload_n 0, 1) := by decide +kernel
theorem dX7_save_64 : decode cX7_save 64 = .ok (.getfield 37, 3) := by decide +kernel
theorem dX7_save_67 : decode cX7_save 67 = .ok (.imul, 1) := by decide +kernel
theorem dX7_save_68 : decode cX7_save 68 = .ok (.iload_n 1, 1) := by decide +kernel
theorem dX7_save_69 : decode cX7_save 69 = .ok (.iadd, 1) := by decide +kernel
theorem dX7_save_70 : decode cX7_save 70 = .ok (.aload_n 0, 1) := by decide +kernel
theorem dX7_save_71 : decode cX7_save 71 = .ok (.getfield 7, 3) := by decide +kernel
theorem dX7_save_74 : decode cX7_save 74 = .ok (.iload_n 1, 1) := by decide +kernel
theorem dX7_save_75 : decode cX7_save 75 = .ok (.iaload, 1) := by decide +kernel
theorem dX7_save_76 : decode cX7_save 76 = .ok (.iastore, 1) := by decide +kernel
theorem dX7_save_77 : decode cX7_save 77 = .ok (.iinc 1 1, 3) := by decide +kernel
theorem dX7_save_80 : decode cX7_save 80 = .ok (.goto (-29), 3) := by decide +kernel
theorem dX7_save_83 : decode cX7_save 83 = .ok (.aload_n 0, 1) := by decide +kernel
theorem dX7_save_84 : decode cX7_save 84 = .ok (.dup, 1) := by decide +kernel
theorem dX7_save_85 : decode cX7_save 85 = .ok (.getfield 37, 3) := by decide +kernel
theorem dX7_save_88 : decode cX7_save 88 = .ok (.iconst 1, 1) := by decide +kernel
theorem dX7_save_89 : decode cX7_save 89 = .ok (.iadd, 1) := by decide +kernel
theorem dX7_save_90 : decode cX7_save 90 = .ok (.putfield 37, 3) := by decide +kernel
theorem dX7_save_93 : decode cX7_save 93 = .ok (.return_, 1) := by decide +kernel
theorem dX7_bits_0 : decode cX7_bits 0 = .ok (.iconst 0, 1) := by decide +kernel
theorem dX7_bits_1 : decode cX7_bits 1 = .ok (.istore_n 1, 1) := by decide +kernel
theorem dX7_bits_2 : decode cX7_bits 2 = .ok (.iconst 0, 1) := by decide +kernel
theorem dX7_bits_3 : decode cX7_bits 3 = .ok (.istore_n 2, 1) := by decide +kernel
theorem dX7_bits_4 : decode cX7_bits 4 = .ok (.iload_n 2, 1) := by decide +kernel
theorem dX7_bits_5 : decode cX7_bits 5 = .ok (.bipush 9, 2) := by decide +kernel
theorem dX7_bits_7 : decode cX7_bits 7 = .ok (.if_icmp .ge 17, 3) := by decide +kernel
theorem dX7_bits_10 : decode cX7_bits 10 = .ok (.iload_n 1, 1) := by decide +kernel
theorem dX7_bits_11 : decode cX7_bits 11 = .ok (.iload_n 0, 1) := by decide +kernel
theorem dX7_bits_12 : decode cX7_bits 12 = .ok (.iload_n 2, 1) := by decide +kernel
theorem dX7_bits_13 : decode cX7_bits 13 = .ok (.ishr, 1) := by decide +kernel
theorem dX7_bits_14 : decode cX7_bits 14 = .ok (.iconst 1, 1) := by decide +kernel
theorem dX7_bits_15 : decode cX7_bits 15 = .ok (.iand, 1) := by decide +kernel
theorem dX7_bits_16 : decode cX7_bits 16 = .ok (.iadd, 1) := by decide +kernel
theorem dX7_bits_17 : decode cX7_bits 17 = .ok (.istore_n 1, 1) := by decide +kernel
theorem dX7_bits_18 : decode cX7_bits 18 = .ok (.iinc 2 1, 3) := by decide +kernel
theorem dX7_bits_21 : decode cX7_bits 21 = .ok (.goto (-17), 3) := by decide +kernel
theorem dX7_bits_24 : decode cX7_bits 24 = .ok (.iload_n 1, 1) := by decide +kernel
theorem dX7_bits_25 : decode cX7_bits 25 = .ok (.ireturn, 1) := by decide +kernel
theorem dX7_off_0 : decode cX7_off 0 = .ok (.iload_n 0, 1) := by decide +kernel
theorem dX7_off_1 : decode cX7_off 1 = .ok (.iload_n 1, 1) := by decide +kernel
theorem dX7_off_2 : decode cX7_off 2 = .ok (.if_icmp .le 9, 3) := by decide +kernel
theorem dX7_off_5 : decode cX7_off 5 = .ok (.iload_n 0, 1) := by decide +kernel
theorem dX7_off_6 : decode cX7_off 6 = .ok (.iload_n 1, 1) := by decide +kernel
theorem dX7_off_7 : decode cX7_off 7 = .ok (.isub, 1) := by decide +kernel
theorem dX7_off_8 : decode cX7_off 8 = .ok (.goto 6, 3) := by decide +kernel
theorem dX7_off_11 : decode cX7_off 11 = .ok (.iload_n 1, 1) := by decide +kernel
theorem dX7_off_12 : decode cX7_off 12 = .ok (.iload_n 0, 1) := by decide +kernel
theorem dX7_off_13 : decode cX7_off 13 = .ok (.isub, 1) := by decide +kernel
theorem dX7_off_14 : decode cX7_off 14 = .ok (.ireturn, 1) := by decide +kernel
theorem dX7_lay_0 : decode cX7_lay 0 = .ok (.iconst 1, 1) := by decide +kernel
theorem dX7_lay_1 : decode cX7_lay 1 = .ok (.istore_n 2, 1) := by decide +kernel
theorem dX7_lay_2 : decode cX7_lay 2 = .ok (.aload_n 0, 1) := by decide +kernel
theorem dX7_lay_3 : decode cX7_lay 3 = .ok (.getfield 26, 3) := by decide +kernel
theorem dX7_lay_6 : decode cX7_lay 6 = .ok (.iconst 0, 1) := by decide +kernel
theorem dX7_lay_7 : decode cX7_lay 7 = .ok (.iconst 0, 1) := by decide +kernel
theorem dX7_lay_8 : decode cX7_lay 8 = .ok (.iastore, 1) := by decide +kernel
theorem dX7_lay_9 : decode cX7_lay 9 = .ok (.iconst 0, 1) := by decide +kernel
theorem dX7_lay_10 : decode cX7_lay 10 = .ok (.istore_n 3, 1) := by decide +kernel
theorem dX7_lay_11 : decode cX7_lay 11 = .ok (.iload_n 3, 1) := by decide +kernel
theorem dX7_lay_12 : decode cX7_lay 12 = .ok (.bipush 9, 2) := by decide +kernel
theorem dX7_lay_14 : decode cX7_lay 14 = .ok (.if_icmp .ge 67, 3) := by decide +kernel
theorem dX7_lay_17 : decode cX7_lay 17 = .ok (.iload_n 1, 1) := by decide +kernel
theorem dX7_lay_18 : decode cX7_lay 18 = .ok (.iload_n 3, 1) := by decide +kernel
theorem dX7_lay_19 : decode cX7_lay 19 = .ok (.ishr, 1) := by decide +kernel
theorem dX7_lay_20 : decode cX7_lay 20 = .ok (.iconst 1, 1) := by decide +kernel
theorem dX7_lay_21 : decode cX7_lay 21 = .ok (.iand, 1) := by decide +kernel
theorem dX7_lay_22 : decode cX7_lay 22 = .ok (.iconst 1, 1) := by decide +kernel
theorem dX7_lay_23 : decode cX7_lay 23 = .ok (.if_icmp .ne 7, 3) := by decide +kernel
theorem dX7_lay_26 : decode cX7_lay 26 = .ok (.iconst 1, 1) := by decide +kernel
theorem dX7_lay_27 : decode cX7_lay 27 = .ok (.goto 4, 3) := by decide +kernel
theorem dX7_lay_30 : decode cX7_lay 30 = .ok (.iconst 0, 1) := by decide +kernel
theorem dX7_lay_31 : decode cX7_lay 31 = .ok (.istore 4, 2) := by decide +kernel
theorem dX7_lay_33 : decode cX7_lay 33 = .ok (.aload_n 0, 1) := by decide +kernel
theorem dX7_lay_34 : decode cX7_lay 34 = .ok (.getfield 26, 3) := by decide +kernel
theorem dX7_lay_37 : decode cX7_lay 37 = .ok (.iload_n 3, 1) := by decide +kernel
theorem dX7_lay_38 : decode cX7_lay 38 = .ok (.iconst 1, 1) := by decide +kernel
theorem dX7_lay_39 : decode cX7_lay 39 = .ok (.iadd, 1) := by decide +kernel
theorem dX7_lay_40 : decode cX7_lay 40 = .ok (.iload 4, 2) := by decide +kernel
theorem dX7_lay_42 : decode cX7_lay 42 = .ok (.ifCond .eq 12, 3) := by decide +kernel
theorem dX7_lay_45 : decode cX7_lay 45 = .ok (.aload_n 0, 1) := by decide +kernel
theorem dX7_lay_46 : decode cX7_lay 46 = .ok (.getfield 26, 3) := by decide +kernel
theorem dX7_lay_49 : decode cX7_lay 49 = .ok (.iload_n 3, 1) := by decide +kernel
theorem dX7_lay_50 : decode cX7_lay 50 = .ok (.iaload, 1) := by decide +kernel
theorem dX7_lay_51 : decode cX7_lay 51 = .ok (.goto 11, 3) := by decide +kernel
theorem dX7_lay_54 : decode cX7_lay 54 = .ok (.aload_n 0, 1) := by decide +kernel
theorem dX7_lay_55 : decode cX7_lay 55 = .ok (.getfield 26, 3) := by decide +kernel
theorem dX7_lay_58 : decode cX7_lay 58 = .ok (.iload_n 3, 1) := by decide +kernel
theorem dX7_lay_59 : decode cX7_lay 59 = .ok (.iaload, 1) := by decide +kernel
theorem dX7_lay_60 : decode cX7_lay 60 = .ok (.iload_n 2, 1) := by decide +kernel
theorem dX7_lay_61 : decode cX7_lay 61 = .ok (.iadd, 1) := by decide +kernel
theorem dX7_lay_62 : decode cX7_lay 62 = .ok (.iastore, 1) := by decide +kernel
theorem dX7_lay_63 : decode cX7_lay 63 = .ok (.iload 4, 2) := by decide +kernel
theorem dX7_lay_65 : decode cX7_lay 65 = .ok (.ifCond .eq 8, 3) := by decide +kernel
theorem dX7_lay_68 : decode cX7_lay 68 = .ok (.iload_n 2, 1) := by decide +kernel
theorem dX7_lay_69 : decode cX7_lay 69 = .ok (.ineg, 1) := by decide +kernel
theorem dX7_lay_70 : decode cX7_lay 70 = .ok (.goto 4, 3) := by decide +kernel
theorem dX7_lay_73 : decode cX7_lay 73 = .ok (.iload_n 2, 1) := by decide +kernel
theorem dX7_lay_74 : decode cX7_lay 74 = .ok (.istore_n 2, 1) := by decide +kernel
theorem dX7_lay_75 : decode cX7_lay 75 = .ok (.iinc 3 1, 3) := by decide +kernel
theorem dX7_lay_78 : decode cX7_lay 78 = .ok (.goto (-67), 3) := by decide +kernel
theorem dX7_lay_81 : decode cX7_lay 81 = .ok (.return_, 1) := by decide +kernel
theorem dX7_answer_0 : decode cX7_answer 0 = .ok (.aload_n 0, 1) := by decide +kernel
theorem dX7_answer_1 : decode cX7_answer 1 = .ok (.getfield 7, 3) := by decide +kernel
theorem dX7_answer_4 : decode cX7_answer 4 = .ok (.bipush 18, 2) := by decide +kernel
theorem dX7_answer_6 : decode cX7_answer 6 = .ok (.iconst 3, 1) := by decide +kernel
theorem dX7_answer_7 : decode cX7_answer 7 = .ok (.iload_n 1, 1) := by decide +kernel
theorem dX7_answer_8 : decode cX7_answer 8 = .ok (.imul, 1) := by decide +kernel
theorem dX7_answer_9 : decode cX7_answer 9 = .ok (.iadd, 1) := by decide +kernel
theorem dX7_answer_10 : decode cX7_answer 10 = .ok (.iload_n 2, 1) := by decide +kernel
theorem dX7_answer_11 : decode cX7_answer 11 = .ok (.iadd, 1) := by decide +kernel
theorem dX7_answer_12 : decode cX7_answer 12 = .ok (.iaload, 1) := by decide +kernel
theorem dX7_answer_13 : decode cX7_answer 13 = .ok (.ireturn, 1) := by decide +kernel
set_option maxRecDepth 20000 in
theorem ggX7_fits_X7_lay : GoodIn wsX7_fits wsX7_lay := goodIn_r _ [7, 2, 12, 13, 14, 15, 16, 17, 18, 19, 20, 21] (by decide +kernel) (by decide +kernel)
set_option maxRecDepth 20000 in
theorem gX7_fits_X7_lay : GoodIn wsX7_fits (wsV RX7 40 RX7 yX7_lay wsX7_lay) := goodIn_app (goodIn_of _ (by decide +kernel)) ggX7_fits_X7_lay
set_option maxRecDepth 20000 in
theorem ggX7_fits_X7_answer : GoodIn wsX7_fits wsX7_answer := goodIn_r _ [11, 1, 12, 13, 14, 15, 16, 17, 18, 19, 20, 21] (by decide +kernel) (by decide +kernel)
set_option maxRecDepth 20000 in
theorem gX7_fits_X7_answer : GoodIn wsX7_fits (wsV RX7 44 RX7 yX7_answer wsX7_answer) := goodIn_app (goodIn_of _ (by decide +kernel)) ggX7_fits_X7_answer
theorem dX7_fits_0 : decode cX7_fits 0 = .ok (.aload_n 0, 1) := by decide +kernel
theorem dX7_fits_1 : decode cX7_fits 1 = .ok (.iload_n 1, 1) := by decide +kernel
theorem dX7_fits_2 : decode cX7_fits 2 = .ok (.invokevirtual 40, 3) := by decide +kernel
theorem dX7_fits_5 : decode cX7_fits 5 = .ok (.iload_n 1, 1) := by decide +kernel
theorem dX7_fits_6 : decode cX7_fits 6 = .ok (.aload_n 0, 1) := by decide +kernel
theorem dX7_fits_7 : decode cX7_fits 7 = .ok (.getfield 7, 3) := by decide +kernel
theorem dX7_fits_10 : decode cX7_fits 10 = .ok (.iconst 1, 1) := by decide +kernel
theorem dX7_fits_11 : decode cX7_fits 11 = .ok (.iaload, 1) := by decide +kernel
theorem dX7_fits_12 : decode cX7_fits 12 = .ok (.iand, 1) := by decide +kernel
theorem dX7_fits_13 : decode cX7_fits 13 = .ok (.ifCond .ne 7, 3) := by decide +kernel
theorem dX7_fits_16 : decode cX7_fits 16 = .ok (.iconst 1, 1) := by decide +kernel
theorem dX7_fits_17 : decode cX7_fits 17 = .ok (.goto 4, 3) := by decide +kernel
theorem dX7_fits_20 : decode cX7_fits 20 = .ok (.iconst 0, 1) := by decide +kernel
theorem dX7_fits_21 : decode cX7_fits 21 = .ok (.istore_n 2, 1) := by decide +kernel
theorem dX7_fits_22 : decode cX7_fits 22 = .ok (.iconst 0, 1) := by decide +kernel
theorem dX7_fits_23 : decode cX7_fits 23 = .ok (.istore_n 3, 1) := by decide +kernel
theorem dX7_fits_24 : decode cX7_fits 24 = .ok (.iload_n 3, 1) := by decide +kernel
theorem dX7_fits_25 : decode cX7_fits 25 = .ok (.aload_n 0, 1) := by decide +kernel
theorem dX7_fits_26 : decode cX7_fits 26 = .ok (.getfield 7, 3) := by decide +kernel
theorem dX7_fits_29 : decode cX7_fits 29 = .ok (.bipush 17, 2) := by decide +kernel
theorem dX7_fits_31 : decode cX7_fits 31 = .ok (.iaload, 1) := by decide +kernel
theorem dX7_fits_32 : decode cX7_fits 32 = .ok (.if_icmp .ge 67, 3) := by decide +kernel
theorem dX7_fits_35 : decode cX7_fits 35 = .ok (.iload_n 2, 1) := by decide +kernel
theorem dX7_fits_36 : decode cX7_fits 36 = .ok (.ifCond .eq 63, 3) := by decide +kernel
theorem dX7_fits_39 : decode cX7_fits 39 = .ok (.aload_n 0, 1) := by decide +kernel
theorem dX7_fits_40 : decode cX7_fits 40 = .ok (.getfield 26, 3) := by decide +kernel
theorem dX7_fits_43 : decode cX7_fits 43 = .ok (.aload_n 0, 1) := by decide +kernel
theorem dX7_fits_44 : decode cX7_fits 44 = .ok (.iload_n 3, 1) := by decide +kernel
theorem dX7_fits_45 : decode cX7_fits 45 = .ok (.iconst 0, 1) := by decide +kernel
theorem dX7_fits_46 : decode cX7_fits 46 = .ok (.invokevirtual 44, 3) := by decide +kernel
theorem dX7_fits_49 : decode cX7_fits 49 = .ok (.iaload, 1) := by decide +kernel
theorem dX7_fits_50 : decode cX7_fits 50 = .ok (.aload_n 0, 1) := by decide +kernel
theorem dX7_fits_51 : decode cX7_fits 51 = .ok (.getfield 26, 3) := by decide +kernel
theorem dX7_fits_54 : decode cX7_fits 54 = .ok (.aload_n 0, 1) := by decide +kernel
theorem dX7_fits_55 : decode cX7_fits 55 = .ok (.iload_n 3, 1) := by decide +kernel
theorem dX7_fits_56 : decode cX7_fits 56 = .ok (.iconst 1, 1) := by decide +kernel
theorem dX7_fits_57 : decode cX7_fits 57 = .ok (.invokevirtual 44, 3) := by decide +kernel
theorem dX7_fits_60 : decode cX7_fits 60 = .ok (.iaload, 1) := by decide +kernel
theorem dX7_fits_61 : decode cX7_fits 61 = .ok (.if_icmp .ne 7, 3) := by decide +kernel
theorem dX7_fits_64 : decode cX7_fits 64 = .ok (.iconst 1, 1) := by decide +kernel
theorem dX7_fits_65 : decode cX7_fits 65 = .ok (.goto 4, 3) := by decide +kernel
theorem dX7_fits_68 : decode cX7_fits 68 = .ok (.iconst 0, 1) := by decide +kernel
theorem dX7_fits_69 : decode cX7_fits 69 = .ok (.aload_n 0, 1) := by decide +kernel
theorem dX7_fits_70 : decode cX7_fits 70 = .ok (.iload_n 3, 1) := by decide +kernel
theorem dX7_fits_71 : decode cX7_fits 71 = .ok (.iconst 2, 1) := by decide +kernel
theorem dX7_fits_72 : decode cX7_fits 72 = .ok (.invokevirtual 44, 3) := by decide +kernel
theorem dX7_fits_75 : decode cX7_fits 75 = .ok (.iconst 1, 1) := by decide +kernel
theorem dX7_fits_76 : decode cX7_fits 76 = .ok (.if_icmp .ne 7, 3) := by decide +kernel
theorem dX7_fits_79 : decode cX7_fits 79 = .ok (.iconst 1, 1) := by decide +kernel
theorem dX7_fits_80 : decode cX7_fits 80 = .ok (.goto 4, 3) := by decide +kernel
theorem dX7_fits_83 : decode cX7_fits 83 = .ok (.iconst 0, 1) := by decide +kernel
theorem dX7_fits_84 : decode cX7_fits 84 = .ok (.if_icmp .ne 7, 3) := by decide +kernel
theorem dX7_fits_87 : decode cX7_fits 87 = .ok (.iconst 1, 1) := by decide +kernel
theorem dX7_fits_88 : decode cX7_fits 88 = .ok (.goto 4, 3) := by decide +kernel
theorem dX7_fits_91 : decode cX7_fits 91 = .ok (.iconst 0, 1) := by decide +kernel
theorem dX7_fits_92 : decode cX7_fits 92 = .ok (.istore_n 2, 1) := by decide +kernel
theorem dX7_fits_93 : decode cX7_fits 93 = .ok (.iinc 3 1, 3) := by decide +kernel
theorem dX7_fits_96 : decode cX7_fits 96 = .ok (.goto (-72), 3) := by decide +kernel
theorem dX7_fits_99 : decode cX7_fits 99 = .ok (.iload_n 2, 1) := by decide +kernel
theorem dX7_fits_100 : decode cX7_fits 100 = .ok (.ireturn, 1) := by decide +kernel
set_option maxRecDepth 20000 in
theorem ggX7_fitting_X7_fits : GoodIn wsX7_fitting wsX7_fits := goodIn_r _ [5, 6, 7, 8, 9, 10, 4, 11, 12, 13, 14, 15, 16, 17, 18, 19, 20, 21, 22, 23, 24, 25] (by decide +kernel) (by decide +kernel)
set_option maxRecDepth 20000 in
theorem gX7_fitting_X7_fits : GoodIn wsX7_fitting (wsV RX7 48 RX7 yX7_fits wsX7_fits) := goodIn_app (goodIn_of _ (by decide +kernel)) ggX7_fitting_X7_fits
theorem dX7_fitting_0 : decode cX7_fitting 0 = .ok (.iconst 0, 1) := by decide +kernel
theorem dX7_fitting_1 : decode cX7_fitting 1 = .ok (.istore_n 1, 1) := by decide +kernel
theorem dX7_fitting_2 : decode cX7_fitting 2 = .ok (.iconst 0, 1) := by decide +kernel
theorem dX7_fitting_3 : decode cX7_fitting 3 = .ok (.istore_n 2, 1) := by decide +kernel
theorem dX7_fitting_4 : decode cX7_fitting 4 = .ok (.iload_n 2, 1) := by decide +kernel
theorem dX7_fitting_5 : decode cX7_fitting 5 = .ok (.sipush 512, 3) := by decide +kernel
theorem dX7_fitting_8 : decode cX7_fitting 8 = .ok (.if_icmp .ge 25, 3) := by decide +kernel
theorem dX7_fitting_11 : decode cX7_fitting 11 = .ok (.iload_n 1, 1) := by decide +kernel
theorem dX7_fitting_12 : decode cX7_fitting 12 = .ok (.aload_n 0, 1) := by decide +kernel
theorem dX7_fitting_13 : decode cX7_fitting 13 = .ok (.iload_n 2, 1) := by decide +kernel
theorem dX7_fitting_14 : decode cX7_fitting 14 = .ok (.invokevirtual 48, 3) := by decide +kernel
theorem dX7_fitting_17 : decode cX7_fitting 17 = .ok (.ifCond .eq 7, 3) := by decide +kernel
theorem dX7_fitting_20 : decode cX7_fitting 20 = .ok (.iconst 1, 1) := by decide +kernel
theorem dX7_fitting_21 : decode cX7_fitting 21 = .ok (.goto 4, 3) := by decide +kernel
theorem dX7_fitting_24 : decode cX7_fitting 24 = .ok (.iconst 0, 1) := by decide +kernel
theorem dX7_fitting_25 : decode cX7_fitting 25 = .ok (.iadd, 1) := by decide +kernel
theorem dX7_fitting_26 : decode cX7_fitting 26 = .ok (.istore_n 1, 1) := by decide +kernel
theorem dX7_fitting_27 : decode cX7_fitting 27 = .ok (.iinc 2 1, 3) := by decide +kernel
theorem dX7_fitting_30 : decode cX7_fitting 30 = .ok (.goto (-26), 3) := by decide +kernel
theorem dX7_fitting_33 : decode cX7_fitting 33 = .ok (.iload_n 1, 1) := by decide +kernel
theorem dX7_fitting_34 : decode cX7_fitting 34 = .ok (.ireturn, 1) := by decide +kernel
set_option maxRecDepth 20000 in
theorem ggX7_touching_X7_fits : GoodIn wsX7_touching wsX7_fits := goodIn_r _ [6, 7, 1, 8, 9, 10, 5, 11, 12, 13, 14, 15, 16, 17, 18, 19, 20, 21, 22, 23, 24, 25] (by decide +kernel) (by decide +kernel)
set_option maxRecDepth 20000 in
theorem gX7_touching_X7_fits : GoodIn wsX7_touching (wsV RX7 48 RX7 yX7_fits wsX7_fits) := goodIn_app (goodIn_of _ (by decide +kernel)) ggX7_touching_X7_fits
theorem dX7_touching_0 : decode cX7_touching 0 = .ok (.iconst 0, 1) := by decide +kernel
theorem dX7_touching_1 : decode cX7_touching 1 = .ok (.istore_n 3, 1) := by decide +kernel
theorem dX7_touching_2 : decode cX7_touching 2 = .ok (.iconst 0, 1) := by decide +kernel
theorem dX7_touching_3 : decode cX7_touching 3 = .ok (.istore 4, 2) := by decide +kernel
theorem dX7_touching_5 : decode cX7_touching 5 = .ok (.iload 4, 2) := by decide +kernel
theorem dX7_touching_7 : decode cX7_touching 7 = .ok (.sipush 512, 3) := by decide +kernel
theorem dX7_touching_10 : decode cX7_touching 10 = .ok (.if_icmp .ge 41, 3) := by decide +kernel
theorem dX7_touching_13 : decode cX7_touching 13 = .ok (.iload_n 3, 1) := by decide +kernel
theorem dX7_touching_14 : decode cX7_touching 14 = .ok (.aload_n 0, 1) := by decide +kernel
theorem dX7_touching_15 : decode cX7_touching 15 = .ok (.iload 4, 2) := by decide +kernel
theorem dX7_touching_17 : decode cX7_touching 17 = .ok (.invokevirtual 48, 3) := by decide +kernel
theorem dX7_touching_20 : decode cX7_touching 20 = .ok (.ifCond .eq 22, 3) := by decide +kernel
theorem dX7_touching_23 : decode cX7_touching 23 = .ok (.aload_n 0, 1) := by decide +kernel
theorem dX7_touching_24 : decode cX7_touching 24 = .ok (.getfield 26, 3) := by decide +kernel
theorem dX7_touching_27 : decode cX7_touching 27 = .ok (.iload_n 1, 1) := by decide +kernel
theorem dX7_touching_28 : decode cX7_touching 28 = .ok (.iaload, 1) := by decide +kernel
theorem dX7_touching_29 : decode cX7_touching 29 = .ok (.aload_n 0, 1) := by decide +kernel
theorem dX7_touching_30 : decode cX7_touching 30 = .ok (.getfield 26, 3) := by decide +kernel
theorem dX7_touching_33 : decode cX7_touching 33 = .ok (.iload_n 2, 1) := by decide +kernel
theorem dX7_touching_34 : decode cX7_touching 34 = .ok (.iaload, 1) := by decide +kernel
theorem dX7_touching_35 : decode cX7_touching 35 = .ok (.if_icmp .ne 7, 3) := by decide +kernel
theorem dX7_touching_38 : decode cX7_touching 38 = .ok (.iconst 1, 1) := by decide +kernel
theorem dX7_touching_39 : decode cX7_touching 39 = .ok (.goto 4, 3) := by decide +kernel
theorem dX7_touching_42 : decode cX7_touching 42 = .ok (.iconst 0, 1) := by decide +kernel
theorem dX7_touching_43 : decode cX7_touching 43 = .ok (.iadd, 1) := by decide +kernel
theorem dX7_touching_44 : decode cX7_touching 44 = .ok (.istore_n 3, 1) := by decide +kernel
theorem dX7_touching_45 : decode cX7_touching 45 = .ok (.iinc 4 1, 3) := by decide +kernel
theorem dX7_touching_48 : decode cX7_touching 48 = .ok (.goto (-43), 3) := by decide +kernel
theorem dX7_touching_51 : decode cX7_touching 51 = .ok (.iload_n 3, 1) := by decide +kernel
theorem dX7_touching_52 : decode cX7_touching 52 = .ok (.ireturn, 1) := by decide +kernel
set_option maxRecDepth 20000 in
theorem ggX7_touch_X7_lay : GoodIn wsX7_touch wsX7_lay := goodIn_r _ [7, 2, 8, 9, 10, 11, 12, 13, 14, 15, 16, 17] (by decide +kernel) (by decide +kernel)
set_option maxRecDepth 20000 in
theorem gX7_touch_X7_lay : GoodIn wsX7_touch (wsV RX7 40 RX7 yX7_lay wsX7_lay) := goodIn_app (goodIn_of _ (by decide +kernel)) ggX7_touch_X7_lay
theorem dX7_touch_0 : decode cX7_touch 0 = .ok (.aload_n 0, 1) := by decide +kernel
theorem dX7_touch_1 : decode cX7_touch 1 = .ok (.aload_n 0, 1) := by decide +kernel
theorem dX7_touch_2 : decode cX7_touch 2 = .ok (.getfield 7, 3) := by decide +kernel
theorem dX7_touch_5 : decode cX7_touch 5 = .ok (.iconst 0, 1) := by decide +kernel
theorem dX7_touch_6 : decode cX7_touch 6 = .ok (.iaload, 1) := by decide +kernel
theorem dX7_touch_7 : decode cX7_touch 7 = .ok (.invokevirtual 40, 3) := by decide +kernel
theorem dX7_touch_10 : decode cX7_touch 10 = .ok (.aload_n 0, 1) := by decide +kernel
theorem dX7_touch_11 : decode cX7_touch 11 = .ok (.getfield 26, 3) := by decide +kernel
theorem dX7_touch_14 : decode cX7_touch 14 = .ok (.iload_n 1, 1) := by decide +kernel
theorem dX7_touch_15 : decode cX7_touch 15 = .ok (.iaload, 1) := by decide +kernel
theorem dX7_touch_16 : decode cX7_touch 16 = .ok (.aload_n 0, 1) := by decide +kernel
theorem dX7_touch_17 : decode cX7_touch 17 = .ok (.getfield 26, 3) := by decide +kernel
theorem dX7_touch_20 : decode cX7_touch 20 = .ok (.iload_n 2, 1) := by decide +kernel
theorem dX7_touch_21 : decode cX7_touch 21 = .ok (.iaload, 1) := by decide +kernel
theorem dX7_touch_22 : decode cX7_touch 22 = .ok (.if_icmp .ne 7, 3) := by decide +kernel
theorem dX7_touch_25 : decode cX7_touch 25 = .ok (.iconst 1, 1) := by decide +kernel
theorem dX7_touch_26 : decode cX7_touch 26 = .ok (.goto 4, 3) := by decide +kernel
theorem dX7_touch_29 : decode cX7_touch 29 = .ok (.iconst 0, 1) := by decide +kernel
theorem dX7_touch_30 : decode cX7_touch 30 = .ok (.ireturn, 1) := by decide +kernel
set_option maxRecDepth 20000 in
theorem ggX7_keptFor_X7_answer : GoodIn wsX7_keptFor wsX7_answer := goodIn_r _ [6, 1, 7, 8, 9, 10, 11, 12, 13, 14, 15, 16] (by decide +kernel) (by decide +kernel)
set_option maxRecDepth 20000 in
theorem gX7_keptFor_X7_answer : GoodIn wsX7_keptFor (wsV RX7 44 RX7 yX7_answer wsX7_answer) := goodIn_app (goodIn_of _ (by decide +kernel)) ggX7_keptFor_X7_answer
theorem dX7_keptFor_0 : decode cX7_keptFor 0 = .ok (.iconst (-1), 1) := by decide +kernel
theorem dX7_keptFor_1 : decode cX7_keptFor 1 = .ok (.istore_n 3, 1) := by decide +kernel
theorem dX7_keptFor_2 : decode cX7_keptFor 2 = .ok (.iconst 0, 1) := by decide +kernel
theorem dX7_keptFor_3 : decode cX7_keptFor 3 = .ok (.istore 4, 2) := by decide +kernel
theorem dX7_keptFor_5 : decode cX7_keptFor 5 = .ok (.iload 4, 2) := by decide +kernel
theorem dX7_keptFor_7 : decode cX7_keptFor 7 = .ok (.aload_n 0, 1) := by decide +kernel
theorem dX7_keptFor_8 : decode cX7_keptFor 8 = .ok (.getfield 7, 3) := by decide +kernel
theorem dX7_keptFor_11 : decode cX7_keptFor 11 = .ok (.bipush 17, 2) := by decide +kernel
theorem dX7_keptFor_13 : decode cX7_keptFor 13 = .ok (.iaload, 1) := by decide +kernel
theorem dX7_keptFor_14 : decode cX7_keptFor 14 = .ok (.if_icmp .ge 77, 3) := by decide +kernel
theorem dX7_keptFor_17 : decode cX7_keptFor 17 = .ok (.aload_n 0, 1) := by decide +kernel
theorem dX7_keptFor_18 : decode cX7_keptFor 18 = .ok (.iload 4, 2) := by decide +kernel
theorem dX7_keptFor_20 : decode cX7_keptFor 20 = .ok (.iconst 0, 1) := by decide +kernel
theorem dX7_keptFor_21 : decode cX7_keptFor 21 = .ok (.invokevirtual 44, 3) := by decide +kernel
theorem dX7_keptFor_24 : decode cX7_keptFor 24 = .ok (.iload_n 1, 1) := by decide +kernel
theorem dX7_keptFor_25 : decode cX7_keptFor 25 = .ok (.if_icmp .ne 14, 3) := by decide +kernel
theorem dX7_keptFor_28 : decode cX7_keptFor 28 = .ok (.aload_n 0, 1) := by decide +kernel
theorem dX7_keptFor_29 : decode cX7_keptFor 29 = .ok (.iload 4, 2) := by decide +kernel
theorem dX7_keptFor_31 : decode cX7_keptFor 31 = .ok (.iconst 1, 1) := by decide +kernel
theorem dX7_keptFor_32 : decode cX7_keptFor 32 = .ok (.invokevirtual 44, 3) := by decide +kernel
theorem dX7_keptFor_35 : decode cX7_keptFor 35 = .ok (.iload_n 2, 1) := by decide +kernel
theorem dX7_keptFor_36 : decode cX7_keptFor 36 = .ok (.if_icmp .eq 25, 3) := by decide +kernel
theorem dX7_keptFor_39 : decode cX7_keptFor 39 = .ok (.aload_n 0, 1) := by decide +kernel
theorem dX7_keptFor_40 : decode cX7_keptFor 40 = .ok (.iload 4, 2) := by decide +kernel
theorem dX7_keptFor_42 : decode cX7_keptFor 42 = .ok (.iconst 0, 1) := by decide +kernel
theorem dX7_keptFor_43 : decode cX7_keptFor 43 = .ok (.invokevirtual 44, 3) := by decide +kernel
theorem dX7_keptFor_46 : decode cX7_keptFor 46 = .ok (.iload_n 2, 1) := by decide +kernel
theorem dX7_keptFor_47 : decode cX7_keptFor 47 = .ok (.if_icmp .ne 18, 3) := by decide +kernel
theorem dX7_keptFor_50 : decode cX7_keptFor 50 = .ok (.aload_n 0, 1) := by decide +kernel
theorem dX7_keptFor_51 : decode cX7_keptFor 51 = .ok (.iload 4, 2) := by decide +kernel
theorem dX7_keptFor_53 : decode cX7_keptFor 53 = .ok (.iconst 1, 1) := by decide +kernel
theorem dX7_keptFor_54 : decode cX7_keptFor 54 = .ok (.invokevirtual 44, 3) := by decide +kernel
theorem dX7_keptFor_57 : decode cX7_keptFor 57 = .ok (.iload_n 1, 1) := by decide +kernel
theorem dX7_keptFor_58 : decode cX7_keptFor 58 = .ok (.if_icmp .ne 7, 3) := by decide +kernel
theorem dX7_keptFor_61 : decode cX7_keptFor 61 = .ok (.iconst 1, 1) := by decide +kernel
theorem dX7_keptFor_62 : decode cX7_keptFor 62 = .ok (.goto 4, 3) := by decide +kernel
theorem dX7_keptFor_65 : decode cX7_keptFor 65 = .ok (.iconst 0, 1) := by decide +kernel
theorem dX7_keptFor_66 : decode cX7_keptFor 66 = .ok (.istore 5, 2) := by decide +kernel
theorem dX7_keptFor_68 : decode cX7_keptFor 68 = .ok (.iload 5, 2) := by decide +kernel
theorem dX7_keptFor_70 : decode cX7_keptFor 70 = .ok (.ifCond .eq 13, 3) := by decide +kernel
theorem dX7_keptFor_73 : decode cX7_keptFor 73 = .ok (.aload_n 0, 1) := by decide +kernel
theorem dX7_keptFor_74 : decode cX7_keptFor 74 = .ok (.iload 4, 2) := by decide +kernel
theorem dX7_keptFor_76 : decode cX7_keptFor 76 = .ok (.iconst 2, 1) := by decide +kernel
theorem dX7_keptFor_77 : decode cX7_keptFor 77 = .ok (.invokevirtual 44, 3) := by decide +kernel
theorem dX7_keptFor_80 : decode cX7_keptFor 80 = .ok (.goto 4, 3) := by decide +kernel
theorem dX7_keptFor_83 : decode cX7_keptFor 83 = .ok (.iload_n 3, 1) := by decide +kernel
theorem dX7_keptFor_84 : decode cX7_keptFor 84 = .ok (.istore_n 3, 1) := by decide +kernel
theorem dX7_keptFor_85 : decode cX7_keptFor 85 = .ok (.iinc 4 1, 3) := by decide +kernel
theorem dX7_keptFor_88 : decode cX7_keptFor 88 = .ok (.goto (-83), 3) := by decide +kernel
theorem dX7_keptFor_91 : decode cX7_keptFor 91 = .ok (.iload_n 3, 1) := by decide +kernel
theorem dX7_keptFor_92 : decode cX7_keptFor 92 = .ok (.ireturn, 1) := by decide +kernel
theorem dX7_takesAway_0 : decode cX7_takesAway 0 = .ok (.aload_n 0, 1) := by decide +kernel
theorem dX7_takesAway_1 : decode cX7_takesAway 1 = .ok (.getfield 7, 3) := by decide +kernel
theorem dX7_takesAway_4 : decode cX7_takesAway 4 = .ok (.bipush 17, 2) := by decide +kernel
theorem dX7_takesAway_6 : decode cX7_takesAway 6 = .ok (.iaload, 1) := by decide +kernel
theorem dX7_takesAway_7 : decode cX7_takesAway 7 = .ok (.istore_n 1, 1) := by decide +kernel
theorem dX7_takesAway_8 : decode cX7_takesAway 8 = .ok (.bipush 17, 2) := by decide +kernel
theorem dX7_takesAway_10 : decode cX7_takesAway 10 = .ok (.istore_n 2, 1) := by decide +kernel
theorem dX7_takesAway_11 : decode cX7_takesAway 11 = .ok (.iload_n 2, 1) := by decide +kernel
theorem dX7_takesAway_12 : decode cX7_takesAway 12 = .ok (.bipush 54, 2) := by decide +kernel
theorem dX7_takesAway_14 : decode cX7_takesAway 14 = .ok (.if_icmp .ge 16, 3) := by decide +kernel
theorem dX7_takesAway_17 : decode cX7_takesAway 17 = .ok (.aload_n 0, 1) := by decide +kernel
theorem dX7_takesAway_18 : decode cX7_takesAway 18 = .ok (.getfield 7, 3) := by decide +kernel
theorem dX7_takesAway_21 : decode cX7_takesAway 21 = .ok (.iload_n 2, 1) := by decide +kernel
theorem dX7_takesAway_22 : decode cX7_takesAway 22 = .ok (.iconst 0, 1) := by decide +kernel
theorem dX7_takesAway_23 : decode cX7_takesAway 23 = .ok (.iastore, 1) := by decide +kernel
theorem dX7_takesAway_24 : decode cX7_takesAway 24 = .ok (.iinc 2 1, 3) := by decide +kernel
theorem dX7_takesAway_27 : decode cX7_takesAway 27 = .ok (.goto (-16), 3) := by decide +kernel
theorem dX7_takesAway_30 : decode cX7_takesAway 30 = .ok (.iload_n 1, 1) := by decide +kernel
theorem dX7_takesAway_31 : decode cX7_takesAway 31 = .ok (.ireturn, 1) := by decide +kernel
set_option maxRecDepth 20000 in
theorem ggX7_folds_X7_takesAway : GoodIn wsX7_folds wsX7_takesAway := goodIn_r _ [6, 1, 7, 8, 9, 10, 11, 12, 13, 14, 15, 16] (by decide +kernel) (by decide +kernel)
set_option maxRecDepth 20000 in
theorem gX7_folds_X7_takesAway : GoodIn wsX7_folds (wsV RX7 52 RX7 yX7_takesAway wsX7_takesAway) := goodIn_app (goodIn_of _ (by decide +kernel)) ggX7_folds_X7_takesAway
theorem dX7_folds_0 : decode cX7_folds 0 = .ok (.aload_n 0, 1) := by decide +kernel
theorem dX7_folds_1 : decode cX7_folds 1 = .ok (.getfield 7, 3) := by decide +kernel
theorem dX7_folds_4 : decode cX7_folds 4 = .ok (.iconst 1, 1) := by decide +kernel
theorem dX7_folds_5 : decode cX7_folds 5 = .ok (.iaload, 1) := by decide +kernel
theorem dX7_folds_6 : decode cX7_folds 6 = .ok (.iload_n 1, 1) := by decide +kernel
theorem dX7_folds_7 : decode cX7_folds 7 = .ok (.ishr, 1) := by decide +kernel
theorem dX7_folds_8 : decode cX7_folds 8 = .ok (.iconst 1, 1) := by decide +kernel
theorem dX7_folds_9 : decode cX7_folds 9 = .ok (.iand, 1) := by decide +kernel
theorem dX7_folds_10 : decode cX7_folds 10 = .ok (.iconst 1, 1) := by decide +kernel
theorem dX7_folds_11 : decode cX7_folds 11 = .ok (.if_icmp .ne 16, 3) := by decide +kernel
theorem dX7_folds_14 : decode cX7_folds 14 = .ok (.aload_n 0, 1) := by decide +kernel
theorem dX7_folds_15 : decode cX7_folds 15 = .ok (.getfield 7, 3) := by decide +kernel
theorem dX7_folds_18 : decode cX7_folds 18 = .ok (.bipush 57, 2) := by decide +kernel
theorem dX7_folds_20 : decode cX7_folds 20 = .ok (.dup2, 1) := by decide +kernel
theorem dX7_folds_21 : decode cX7_folds 21 = .ok (.iaload, 1) := by decide +kernel
theorem dX7_folds_22 : decode cX7_folds 22 = .ok (.iconst 1, 1) := by decide +kernel
theorem dX7_folds_23 : decode cX7_folds 23 = .ok (.iadd, 1) := by decide +kernel
theorem dX7_folds_24 : decode cX7_folds 24 = .ok (.iastore, 1) := by decide +kernel
theorem dX7_folds_25 : decode cX7_folds 25 = .ok (.iconst (-1), 1) := by decide +kernel
theorem dX7_folds_26 : decode cX7_folds 26 = .ok (.ireturn, 1) := by decide +kernel
theorem dX7_folds_27 : decode cX7_folds 27 = .ok (.aload_n 0, 1) := by decide +kernel
theorem dX7_folds_28 : decode cX7_folds 28 = .ok (.getfield 7, 3) := by decide +kernel
theorem dX7_folds_31 : decode cX7_folds 31 = .ok (.iconst 0, 1) := by decide +kernel
theorem dX7_folds_32 : decode cX7_folds 32 = .ok (.dup2, 1) := by decide +kernel
theorem dX7_folds_33 : decode cX7_folds 33 = .ok (.iaload, 1) := by decide +kernel
theorem dX7_folds_34 : decode cX7_folds 34 = .ok (.iconst 1, 1) := by decide +kernel
theorem dX7_folds_35 : decode cX7_folds 35 = .ok (.iload_n 1, 1) := by decide +kernel
theorem dX7_folds_36 : decode cX7_folds 36 = .ok (.ishl, 1) := by decide +kernel
theorem dX7_folds_37 : decode cX7_folds 37 = .ok (.ixor, 1) := by decide +kernel
theorem dX7_folds_38 : decode cX7_folds 38 = .ok (.iastore, 1) := by decide +kernel
theorem dX7_folds_39 : decode cX7_folds 39 = .ok (.aload_n 0, 1) := by decide +kernel
theorem dX7_folds_40 : decode cX7_folds 40 = .ok (.getfield 7, 3) := by decide +kernel
theorem dX7_folds_43 : decode cX7_folds 43 = .ok (.iconst 2, 1) := by decide +kernel
theorem dX7_folds_44 : decode cX7_folds 44 = .ok (.iload_n 1, 1) := by decide +kernel
theorem dX7_folds_45 : decode cX7_folds 45 = .ok (.iadd, 1) := by decide +kernel
theorem dX7_folds_46 : decode cX7_folds 46 = .ok (.dup2, 1) := by decide +kernel
theorem dX7_folds_47 : decode cX7_folds 47 = .ok (.iaload, 1) := by decide +kernel
theorem dX7_folds_48 : decode cX7_folds 48 = .ok (.iconst 1, 1) := by decide +kernel
theorem dX7_folds_49 : decode cX7_folds 49 = .ok (.iadd, 1) := by decide +kernel
theorem dX7_folds_50 : decode cX7_folds 50 = .ok (.iastore, 1) := by decide +kernel
theorem dX7_folds_51 : decode cX7_folds 51 = .ok (.aload_n 0, 1) := by decide +kernel
theorem dX7_folds_52 : decode cX7_folds 52 = .ok (.invokevirtual 52, 3) := by decide +kernel
theorem dX7_folds_55 : decode cX7_folds 55 = .ok (.istore_n 2, 1) := by decide +kernel
theorem dX7_folds_56 : decode cX7_folds 56 = .ok (.aload_n 0, 1) := by decide +kernel
theorem dX7_folds_57 : decode cX7_folds 57 = .ok (.getfield 7, 3) := by decide +kernel
theorem dX7_folds_60 : decode cX7_folds 60 = .ok (.iconst 0, 1) := by decide +kernel
theorem dX7_folds_61 : decode cX7_folds 61 = .ok (.iaload, 1) := by decide +kernel
theorem dX7_folds_62 : decode cX7_folds 62 = .ok (.iload_n 1, 1) := by decide +kernel
theorem dX7_folds_63 : decode cX7_folds 63 = .ok (.ishr, 1) := by decide +kernel
theorem dX7_folds_64 : decode cX7_folds 64 = .ok (.iconst 1, 1) := by decide +kernel
theorem dX7_folds_65 : decode cX7_folds 65 = .ok (.iand, 1) := by decide +kernel
theorem dX7_folds_66 : decode cX7_folds 66 = .ok (.ireturn, 1) := by decide +kernel
set_option maxRecDepth 20000 in
theorem ggX7_fold_X7_isCrease : GoodIn wsX7_fold wsX7_isCrease := goodIn_r _ [4, 5, 6, 3, 7] (by decide +kernel) (by decide +kernel)
set_option maxRecDepth 20000 in
theorem gX7_fold_X7_isCrease : GoodIn wsX7_fold (va_wsS RX7 56 yX7_isCrease wsX7_isCrease) := goodIn_app (goodIn_of _ (by decide +kernel)) ggX7_fold_X7_isCrease
set_option maxRecDepth 20000 in
theorem ggX7_fold_X7_holds : GoodIn wsX7_fold wsX7_holds := goodIn_r _ [11, 12, 28, 29, 30, 31, 32, 33, 34, 35, 36, 37] (by decide +kernel) (by decide +kernel)
set_option maxRecDepth 20000 in
theorem gX7_fold_X7_holds : GoodIn wsX7_fold (wsV RX7 59 RX7 yX7_holds wsX7_holds) := goodIn_app (goodIn_of _ (by decide +kernel)) ggX7_fold_X7_holds
set_option maxRecDepth 20000 in
theorem ggX7_fold_X7_save : GoodIn wsX7_fold wsX7_save := goodIn_r _ [16, 17, 18, 19, 28, 29, 30, 31, 32, 33, 34, 35, 36, 37] (by decide +kernel) (by decide +kernel)
set_option maxRecDepth 20000 in
theorem gX7_fold_X7_save : GoodIn wsX7_fold (wsV RX7 62 RX7 yX7_save wsX7_save) := goodIn_app (goodIn_of _ (by decide +kernel)) ggX7_fold_X7_save
set_option maxRecDepth 20000 in
theorem ggX7_fold_X7_folds : GoodIn wsX7_fold wsX7_folds := goodIn_r _ [23, 19, 24, 25, 26, 3, 27, 28, 29, 30, 31, 32, 33, 34, 35, 36, 37] (by decide +kernel) (by decide +kernel)
set_option maxRecDepth 20000 in
theorem gX7_fold_X7_folds : GoodIn wsX7_fold (wsV RX7 65 RX7 yX7_folds wsX7_folds) := goodIn_app (goodIn_of _ (by decide +kernel)) ggX7_fold_X7_folds
theorem dX7_fold_0 : decode cX7_fold 0 = .ok (.aload_n 0, 1) := by decide +kernel
theorem dX7_fold_1 : decode cX7_fold 1 = .ok (.iload_n 1, 1) := by decide +kernel
theorem dX7_fold_2 : decode cX7_fold 2 = .ok (.invokestatic 56, 3) := by decide +kernel
theorem dX7_fold_5 : decode cX7_fold 5 = .ok (.ifCond .eq 7, 3) := by decide +kernel
theorem dX7_fold_8 : decode cX7_fold 8 = .ok (.iconst 0, 1) := by decide +kernel
theorem dX7_fold_9 : decode cX7_fold 9 = .ok (.goto 4, 3) := by decide +kernel
theorem dX7_fold_12 : decode cX7_fold 12 = .ok (.iconst 1, 1) := by decide +kernel
theorem dX7_fold_13 : decode cX7_fold 13 = .ok (.invokevirtual 59, 3) := by decide +kernel
theorem dX7_fold_16 : decode cX7_fold 16 = .ok (.ifCond .ne 5, 3) := by decide +kernel
theorem dX7_fold_19 : decode cX7_fold 19 = .ok (.iconst 0, 1) := by decide +kernel
theorem dX7_fold_20 : decode cX7_fold 20 = .ok (.ireturn, 1) := by decide +kernel
theorem dX7_fold_21 : decode cX7_fold 21 = .ok (.aload_n 0, 1) := by decide +kernel
theorem dX7_fold_22 : decode cX7_fold 22 = .ok (.invokevirtual 62, 3) := by decide +kernel
theorem dX7_fold_25 : decode cX7_fold 25 = .ok (.aload_n 0, 1) := by decide +kernel
theorem dX7_fold_26 : decode cX7_fold 26 = .ok (.iload_n 1, 1) := by decide +kernel
theorem dX7_fold_27 : decode cX7_fold 27 = .ok (.invokevirtual 65, 3) := by decide +kernel
theorem dX7_fold_30 : decode cX7_fold 30 = .ok (.ireturn, 1) := by decide +kernel
set_option maxRecDepth 20000 in
theorem ggX7_move_X7_isTown : GoodIn wsX7_move wsX7_isTown := goodIn_r _ [5, 6, 7, 4, 8] (by decide +kernel) (by decide +kernel)
set_option maxRecDepth 20000 in
theorem gX7_move_X7_isTown : GoodIn wsX7_move (va_wsS RX7 69 yX7_isTown wsX7_isTown) := goodIn_app (goodIn_of _ (by decide +kernel)) ggX7_move_X7_isTown
set_option maxRecDepth 20000 in
theorem ggX7_move_X7_isPanel : GoodIn wsX7_move wsX7_isPanel := goodIn_r _ [11, 6, 7, 4, 8] (by decide +kernel) (by decide +kernel)
set_option maxRecDepth 20000 in
theorem gX7_move_X7_isPanel : GoodIn wsX7_move (va_wsS RX7 72 yX7_isPanel wsX7_isPanel) := goodIn_app (goodIn_of _ (by decide +kernel)) ggX7_move_X7_isPanel
set_option maxRecDepth 20000 in
theorem ggX7_move_X7_holds : GoodIn wsX7_move wsX7_holds := goodIn_r _ [15, 16, 27, 28, 29, 30, 31, 32, 33, 34, 35, 36] (by decide +kernel) (by decide +kernel)
set_option maxRecDepth 20000 in
theorem gX7_move_X7_holds : GoodIn wsX7_move (wsV RX7 59 RX7 yX7_holds wsX7_holds) := goodIn_app (goodIn_of _ (by decide +kernel)) ggX7_move_X7_holds
set_option maxRecDepth 20000 in
theorem ggX7_move_X7_save : GoodIn wsX7_move wsX7_save := goodIn_r _ [20, 21, 22, 1, 27, 28, 29, 30, 31, 32, 33, 34, 35, 36] (by decide +kernel) (by decide +kernel)
set_option maxRecDepth 20000 in
theorem gX7_move_X7_save : GoodIn wsX7_move (wsV RX7 62 RX7 yX7_save wsX7_save) := goodIn_app (goodIn_of _ (by decide +kernel)) ggX7_move_X7_save
set_option maxRecDepth 20000 in
theorem ggX7_move_X7_takesAway : GoodIn wsX7_move wsX7_takesAway := goodIn_r _ [26, 1, 27, 28, 29, 30, 31, 32, 33, 34, 35, 36] (by decide +kernel) (by decide +kernel)
set_option maxRecDepth 20000 in
theorem gX7_move_X7_takesAway : GoodIn wsX7_move (wsV RX7 52 RX7 yX7_takesAway wsX7_takesAway) := goodIn_app (goodIn_of _ (by decide +kernel)) ggX7_move_X7_takesAway
theorem dX7_move_0 : decode cX7_move 0 = .ok (.aload_n 0, 1) := by decide +kernel
theorem dX7_move_1 : decode cX7_move 1 = .ok (.iload_n 1, 1) := by decide +kernel
theorem dX7_move_2 : decode cX7_move 2 = .ok (.invokestatic 69, 3) := by decide +kernel
theorem dX7_move_5 : decode cX7_move 5 = .ok (.ifCond .ne 7, 3) := by decide +kernel
theorem dX7_move_8 : decode cX7_move 8 = .ok (.iconst 1, 1) := by decide +kernel
theorem dX7_move_9 : decode cX7_move 9 = .ok (.goto 15, 3) := by decide +kernel
theorem dX7_move_12 : decode cX7_move 12 = .ok (.iload_n 2, 1) := by decide +kernel
theorem dX7_move_13 : decode cX7_move 13 = .ok (.invokestatic 72, 3) := by decide +kernel
theorem dX7_move_16 : decode cX7_move 16 = .ok (.ifCond .ne 7, 3) := by decide +kernel
theorem dX7_move_19 : decode cX7_move 19 = .ok (.iconst 2, 1) := by decide +kernel
theorem dX7_move_20 : decode cX7_move 20 = .ok (.goto 4, 3) := by decide +kernel
theorem dX7_move_23 : decode cX7_move 23 = .ok (.iconst 0, 1) := by decide +kernel
theorem dX7_move_24 : decode cX7_move 24 = .ok (.invokevirtual 59, 3) := by decide +kernel
theorem dX7_move_27 : decode cX7_move 27 = .ok (.ifCond .ne 5, 3) := by decide +kernel
theorem dX7_move_30 : decode cX7_move 30 = .ok (.iconst 0, 1) := by decide +kernel
theorem dX7_move_31 : decode cX7_move 31 = .ok (.ireturn, 1) := by decide +kernel
theorem dX7_move_32 : decode cX7_move 32 = .ok (.aload_n 0, 1) := by decide +kernel
theorem dX7_move_33 : decode cX7_move 33 = .ok (.invokevirtual 62, 3) := by decide +kernel
theorem dX7_move_36 : decode cX7_move 36 = .ok (.aload_n 0, 1) := by decide +kernel
theorem dX7_move_37 : decode cX7_move 37 = .ok (.getfield 7, 3) := by decide +kernel
theorem dX7_move_40 : decode cX7_move 40 = .ok (.bipush 11, 2) := by decide +kernel
theorem dX7_move_42 : decode cX7_move 42 = .ok (.iload_n 1, 1) := by decide +kernel
theorem dX7_move_43 : decode cX7_move 43 = .ok (.iadd, 1) := by decide +kernel
theorem dX7_move_44 : decode cX7_move 44 = .ok (.iaload, 1) := by decide +kernel
theorem dX7_move_45 : decode cX7_move 45 = .ok (.istore_n 3, 1) := by decide +kernel
theorem dX7_move_46 : decode cX7_move 46 = .ok (.aload_n 0, 1) := by decide +kernel
theorem dX7_move_47 : decode cX7_move 47 = .ok (.getfield 7, 3) := by decide +kernel
theorem dX7_move_50 : decode cX7_move 50 = .ok (.bipush 11, 2) := by decide +kernel
theorem dX7_move_52 : decode cX7_move 52 = .ok (.iload_n 1, 1) := by decide +kernel
theorem dX7_move_53 : decode cX7_move 53 = .ok (.iadd, 1) := by decide +kernel
theorem dX7_move_54 : decode cX7_move 54 = .ok (.iload_n 2, 1) := by decide +kernel
theorem dX7_move_55 : decode cX7_move 55 = .ok (.iastore, 1) := by decide +kernel
theorem dX7_move_56 : decode cX7_move 56 = .ok (.aload_n 0, 1) := by decide +kernel
theorem dX7_move_57 : decode cX7_move 57 = .ok (.invokevirtual 52, 3) := by decide +kernel
theorem dX7_move_60 : decode cX7_move 60 = .ok (.istore 4, 2) := by decide +kernel
theorem dX7_move_62 : decode cX7_move 62 = .ok (.iload_n 3, 1) := by decide +kernel
theorem dX7_move_63 : decode cX7_move 63 = .ok (.ireturn, 1) := by decide +kernel
set_option maxRecDepth 20000 in
theorem ggX7_pull_X7_in : GoodIn wsX7_pull wsX7_in := goodIn_r _ [5] (by decide +kernel) (by decide +kernel)
set_option maxRecDepth 20000 in
theorem gX7_pull_X7_in : GoodIn wsX7_pull (va_wsS RX7 33 yX7_in wsX7_in) := goodIn_app (goodIn_of _ (by decide +kernel)) ggX7_pull_X7_in
set_option maxRecDepth 20000 in
theorem ggX7_pull_X7_holds : GoodIn wsX7_pull wsX7_holds := goodIn_r _ [9, 10, 24, 25, 26, 27, 28, 29, 30, 31, 32, 33] (by decide +kernel) (by decide +kernel)
set_option maxRecDepth 20000 in
theorem gX7_pull_X7_holds : GoodIn wsX7_pull (wsV RX7 59 RX7 yX7_holds wsX7_holds) := goodIn_app (goodIn_of _ (by decide +kernel)) ggX7_pull_X7_holds
set_option maxRecDepth 20000 in
theorem ggX7_pull_X7_save : GoodIn wsX7_pull wsX7_save := goodIn_r _ [14, 15, 16, 1, 24, 25, 26, 27, 28, 29, 30, 31, 32, 33] (by decide +kernel) (by decide +kernel)
set_option maxRecDepth 20000 in
theorem gX7_pull_X7_save : GoodIn wsX7_pull (wsV RX7 62 RX7 yX7_save wsX7_save) := goodIn_app (goodIn_of _ (by decide +kernel)) ggX7_pull_X7_save
set_option maxRecDepth 20000 in
theorem ggX7_pull_X7_takesAway : GoodIn wsX7_pull wsX7_takesAway := goodIn_r _ [20, 1, 24, 25, 26, 27, 28, 29, 30, 31, 32, 33] (by decide +kernel) (by decide +kernel)
set_option maxRecDepth 20000 in
theorem gX7_pull_X7_takesAway : GoodIn wsX7_pull (wsV RX7 52 RX7 yX7_takesAway wsX7_takesAway) := goodIn_app (goodIn_of _ (by decide +kernel)) ggX7_pull_X7_takesAway
set_option maxRecDepth 20000 in
theorem ggX7_pull_X7_bits : GoodIn wsX7_pull wsX7_bits := goodIn_r _ [23] (by decide +kernel) (by decide +kernel)
set_option maxRecDepth 20000 in
theorem gX7_pull_X7_bits : GoodIn wsX7_pull (va_wsS RX7 75 yX7_bits wsX7_bits) := goodIn_app (goodIn_of _ (by decide +kernel)) ggX7_pull_X7_bits
theorem dX7_pull_0 : decode cX7_pull 0 = .ok (.aload_n 0, 1) := by decide +kernel
theorem dX7_pull_1 : decode cX7_pull 1 = .ok (.iload_n 1, 1) := by decide +kernel
theorem dX7_pull_2 : decode cX7_pull 2 = .ok (.iconst 1, 1) := by decide +kernel
theorem dX7_pull_3 : decode cX7_pull 3 = .ok (.bipush 9, 2) := by decide +kernel
theorem dX7_pull_5 : decode cX7_pull 5 = .ok (.invokestatic 33, 3) := by decide +kernel
theorem dX7_pull_8 : decode cX7_pull 8 = .ok (.ifCond .eq 7, 3) := by decide +kernel
theorem dX7_pull_11 : decode cX7_pull 11 = .ok (.iconst 0, 1) := by decide +kernel
theorem dX7_pull_12 : decode cX7_pull 12 = .ok (.goto 4, 3) := by decide +kernel
theorem dX7_pull_15 : decode cX7_pull 15 = .ok (.iconst 1, 1) := by decide +kernel
theorem dX7_pull_16 : decode cX7_pull 16 = .ok (.invokevirtual 59, 3) := by decide +kernel
theorem dX7_pull_19 : decode cX7_pull 19 = .ok (.ifCond .ne 5, 3) := by decide +kernel
theorem dX7_pull_22 : decode cX7_pull 22 = .ok (.iconst 0, 1) := by decide +kernel
theorem dX7_pull_23 : decode cX7_pull 23 = .ok (.ireturn, 1) := by decide +kernel
theorem dX7_pull_24 : decode cX7_pull 24 = .ok (.aload_n 0, 1) := by decide +kernel
theorem dX7_pull_25 : decode cX7_pull 25 = .ok (.invokevirtual 62, 3) := by decide +kernel
theorem dX7_pull_28 : decode cX7_pull 28 = .ok (.iconst 0, 1) := by decide +kernel
theorem dX7_pull_29 : decode cX7_pull 29 = .ok (.istore_n 2, 1) := by decide +kernel
theorem dX7_pull_30 : decode cX7_pull 30 = .ok (.iconst 0, 1) := by decide +kernel
theorem dX7_pull_31 : decode cX7_pull 31 = .ok (.istore_n 3, 1) := by decide +kernel
theorem dX7_pull_32 : decode cX7_pull 32 = .ok (.iload_n 3, 1) := by decide +kernel
theorem dX7_pull_33 : decode cX7_pull 33 = .ok (.bipush 9, 2) := by decide +kernel
theorem dX7_pull_35 : decode cX7_pull 35 = .ok (.if_icmp .ge 48, 3) := by decide +kernel
theorem dX7_pull_38 : decode cX7_pull 38 = .ok (.iload_n 2, 1) := by decide +kernel
theorem dX7_pull_39 : decode cX7_pull 39 = .ok (.aload_n 0, 1) := by decide +kernel
theorem dX7_pull_40 : decode cX7_pull 40 = .ok (.getfield 7, 3) := by decide +kernel
theorem dX7_pull_43 : decode cX7_pull 43 = .ok (.iconst 0, 1) := by decide +kernel
theorem dX7_pull_44 : decode cX7_pull 44 = .ok (.iaload, 1) := by decide +kernel
theorem dX7_pull_45 : decode cX7_pull 45 = .ok (.iload_n 3, 1) := by decide +kernel
theorem dX7_pull_46 : decode cX7_pull 46 = .ok (.ishr, 1) := by decide +kernel
theorem dX7_pull_47 : decode cX7_pull 47 = .ok (.iconst 1, 1) := by decide +kernel
theorem dX7_pull_48 : decode cX7_pull 48 = .ok (.iand, 1) := by decide +kernel
theorem dX7_pull_49 : decode cX7_pull 49 = .ok (.iconst 1, 1) := by decide +kernel
theorem dX7_pull_50 : decode cX7_pull 50 = .ok (.if_icmp .ne 24, 3) := by decide +kernel
theorem dX7_pull_53 : decode cX7_pull 53 = .ok (.aload_n 0, 1) := by decide +kernel
theorem dX7_pull_54 : decode cX7_pull 54 = .ok (.getfield 7, 3) := by decide +kernel
theorem dX7_pull_57 : decode cX7_pull 57 = .ok (.iconst 2, 1) := by decide +kernel
theorem dX7_pull_58 : decode cX7_pull 58 = .ok (.iload_n 3, 1) := by decide +kernel
theorem dX7_pull_59 : decode cX7_pull 59 = .ok (.iadd, 1) := by decide +kernel
theorem dX7_pull_60 : decode cX7_pull 60 = .ok (.iaload, 1) := by decide +kernel
theorem dX7_pull_61 : decode cX7_pull 61 = .ok (.bipush 10, 2) := by decide +kernel
theorem dX7_pull_63 : decode cX7_pull 63 = .ok (.iload_n 1, 1) := by decide +kernel
theorem dX7_pull_64 : decode cX7_pull 64 = .ok (.isub, 1) := by decide +kernel
theorem dX7_pull_65 : decode cX7_pull 65 = .ok (.if_icmp .lt 9, 3) := by decide +kernel
theorem dX7_pull_68 : decode cX7_pull 68 = .ok (.iconst 1, 1) := by decide +kernel
theorem dX7_pull_69 : decode cX7_pull 69 = .ok (.iload_n 3, 1) := by decide +kernel
theorem dX7_pull_70 : decode cX7_pull 70 = .ok (.ishl, 1) := by decide +kernel
theorem dX7_pull_71 : decode cX7_pull 71 = .ok (.goto 4, 3) := by decide +kernel
theorem dX7_pull_74 : decode cX7_pull 74 = .ok (.iconst 0, 1) := by decide +kernel
theorem dX7_pull_75 : decode cX7_pull 75 = .ok (.ior, 1) := by decide +kernel
theorem dX7_pull_76 : decode cX7_pull 76 = .ok (.istore_n 2, 1) := by decide +kernel
theorem dX7_pull_77 : decode cX7_pull 77 = .ok (.iinc 3 1, 3) := by decide +kernel
theorem dX7_pull_80 : decode cX7_pull 80 = .ok (.goto (-48), 3) := by decide +kernel
theorem dX7_pull_83 : decode cX7_pull 83 = .ok (.aload_n 0, 1) := by decide +kernel
theorem dX7_pull_84 : decode cX7_pull 84 = .ok (.getfield 7, 3) := by decide +kernel
theorem dX7_pull_87 : decode cX7_pull 87 = .ok (.iconst 0, 1) := by decide +kernel
theorem dX7_pull_88 : decode cX7_pull 88 = .ok (.dup2, 1) := by decide +kernel
theorem dX7_pull_89 : decode cX7_pull 89 = .ok (.iaload, 1) := by decide +kernel
theorem dX7_pull_90 : decode cX7_pull 90 = .ok (.iload_n 2, 1) := by decide +kernel
theorem dX7_pull_91 : decode cX7_pull 91 = .ok (.iconst (-1), 1) := by decide +kernel
theorem dX7_pull_92 : decode cX7_pull 92 = .ok (.ixor, 1) := by decide +kernel
theorem dX7_pull_93 : decode cX7_pull 93 = .ok (.iand, 1) := by decide +kernel
theorem dX7_pull_94 : decode cX7_pull 94 = .ok (.iastore, 1) := by decide +kernel
theorem dX7_pull_95 : decode cX7_pull 95 = .ok (.aload_n 0, 1) := by decide +kernel
theorem dX7_pull_96 : decode cX7_pull 96 = .ok (.getfield 7, 3) := by decide +kernel
theorem dX7_pull_99 : decode cX7_pull 99 = .ok (.iconst 1, 1) := by decide +kernel
theorem dX7_pull_100 : decode cX7_pull 100 = .ok (.dup2, 1) := by decide +kernel
theorem dX7_pull_101 : decode cX7_pull 101 = .ok (.iaload, 1) := by decide +kernel
theorem dX7_pull_102 : decode cX7_pull 102 = .ok (.iload_n 2, 1) := by decide +kernel
theorem dX7_pull_103 : decode cX7_pull 103 = .ok (.ior, 1) := by decide +kernel
theorem dX7_pull_104 : decode cX7_pull 104 = .ok (.iastore, 1) := by decide +kernel
theorem dX7_pull_105 : decode cX7_pull 105 = .ok (.iload_n 2, 1) := by decide +kernel
theorem dX7_pull_106 : decode cX7_pull 106 = .ok (.ifCond .le 10, 3) := by decide +kernel
theorem dX7_pull_109 : decode cX7_pull 109 = .ok (.aload_n 0, 1) := by decide +kernel
theorem dX7_pull_110 : decode cX7_pull 110 = .ok (.invokevirtual 52, 3) := by decide +kernel
theorem dX7_pull_113 : decode cX7_pull 113 = .ok (.goto 4, 3) := by decide +kernel
theorem dX7_pull_116 : decode cX7_pull 116 = .ok (.iconst 0, 1) := by decide +kernel
theorem dX7_pull_117 : decode cX7_pull 117 = .ok (.istore_n 3, 1) := by decide +kernel
theorem dX7_pull_118 : decode cX7_pull 118 = .ok (.iload_n 2, 1) := by decide +kernel
theorem dX7_pull_119 : decode cX7_pull 119 = .ok (.invokestatic 75, 3) := by decide +kernel
theorem dX7_pull_122 : decode cX7_pull 122 = .ok (.ireturn, 1) := by decide +kernel
set_option maxRecDepth 20000 in
theorem ggX7_anew_X7_takesAway : GoodIn wsX7_anew wsX7_takesAway := goodIn_r _ [6, 1, 7, 8, 9, 10, 11, 12, 13, 14, 15, 16] (by decide +kernel) (by decide +kernel)
set_option maxRecDepth 20000 in
theorem gX7_anew_X7_takesAway : GoodIn wsX7_anew (wsV RX7 52 RX7 yX7_takesAway wsX7_takesAway) := goodIn_app (goodIn_of _ (by decide +kernel)) ggX7_anew_X7_takesAway
theorem dX7_anew_0 : decode cX7_anew 0 = .ok (.aload_n 0, 1) := by decide +kernel
theorem dX7_anew_1 : decode cX7_anew 1 = .ok (.getfield 7, 3) := by decide +kernel
theorem dX7_anew_4 : decode cX7_anew 4 = .ok (.iconst 0, 1) := by decide +kernel
theorem dX7_anew_5 : decode cX7_anew 5 = .ok (.iload_n 1, 1) := by decide +kernel
theorem dX7_anew_6 : decode cX7_anew 6 = .ok (.iastore, 1) := by decide +kernel
theorem dX7_anew_7 : decode cX7_anew 7 = .ok (.aload_n 0, 1) := by decide +kernel
theorem dX7_anew_8 : decode cX7_anew 8 = .ok (.getfield 7, 3) := by decide +kernel
theorem dX7_anew_11 : decode cX7_anew 11 = .ok (.iconst 1, 1) := by decide +kernel
theorem dX7_anew_12 : decode cX7_anew 12 = .ok (.iconst 0, 1) := by decide +kernel
theorem dX7_anew_13 : decode cX7_anew 13 = .ok (.iastore, 1) := by decide +kernel
theorem dX7_anew_14 : decode cX7_anew 14 = .ok (.iconst 0, 1) := by decide +kernel
theorem dX7_anew_15 : decode cX7_anew 15 = .ok (.istore_n 2, 1) := by decide +kernel
theorem dX7_anew_16 : decode cX7_anew 16 = .ok (.iload_n 2, 1) := by decide +kernel
theorem dX7_anew_17 : decode cX7_anew 17 = .ok (.bipush 9, 2) := by decide +kernel
theorem dX7_anew_19 : decode cX7_anew 19 = .ok (.if_icmp .ge 18, 3) := by decide +kernel
theorem dX7_anew_22 : decode cX7_anew 22 = .ok (.aload_n 0, 1) := by decide +kernel
theorem dX7_anew_23 : decode cX7_anew 23 = .ok (.getfield 7, 3) := by decide +kernel
theorem dX7_anew_26 : decode cX7_anew 26 = .ok (.iconst 2, 1) := by decide +kernel
theorem dX7_anew_27 : decode cX7_anew 27 = .ok (.iload_n 2, 1) := by decide +kernel
theorem dX7_anew_28 : decode cX7_anew 28 = .ok (.iadd, 1) := by decide +kernel
theorem dX7_anew_29 : decode cX7_anew 29 = .ok (.iconst 0, 1) := by decide +kernel
theorem dX7_anew_30 : decode cX7_anew 30 = .ok (.iastore, 1) := by decide +kernel
theorem dX7_anew_31 : decode cX7_anew 31 = .ok (.iinc 2 1, 3) := by decide +kernel
theorem dX7_anew_34 : decode cX7_anew 34 = .ok (.goto (-18), 3) := by decide +kernel
theorem dX7_anew_37 : decode cX7_anew 37 = .ok (.aload_n 0, 1) := by decide +kernel
theorem dX7_anew_38 : decode cX7_anew 38 = .ok (.invokevirtual 52, 3) := by decide +kernel
theorem dX7_anew_41 : decode cX7_anew 41 = .ok (.istore_n 2, 1) := by decide +kernel
theorem dX7_anew_42 : decode cX7_anew 42 = .ok (.return_, 1) := by decide +kernel
set_option maxRecDepth 20000 in
theorem ggX7_renew_X7_save : GoodIn wsX7_renew wsX7_save := goodIn_r _ [7, 8, 9, 2, 21, 22, 23, 24, 25, 26, 27, 28, 29, 30] (by decide +kernel) (by decide +kernel)
set_option maxRecDepth 20000 in
theorem gX7_renew_X7_save : GoodIn wsX7_renew (wsV RX7 62 RX7 yX7_save wsX7_save) := goodIn_app (goodIn_of _ (by decide +kernel)) ggX7_renew_X7_save
set_option maxRecDepth 20000 in
theorem ggX7_renew_X7_bits : GoodIn wsX7_renew wsX7_bits := goodIn_r _ [12] (by decide +kernel) (by decide +kernel)
set_option maxRecDepth 20000 in
theorem gX7_renew_X7_bits : GoodIn wsX7_renew (va_wsS RX7 75 yX7_bits wsX7_bits) := goodIn_app (goodIn_of _ (by decide +kernel)) ggX7_renew_X7_bits
set_option maxRecDepth 20000 in
theorem ggX7_renew_X7_anew : GoodIn wsX7_renew wsX7_anew := goodIn_r _ [16, 2, 17, 18, 19, 6, 20, 21, 22, 23, 24, 25, 26, 27, 28, 29, 30] (by decide +kernel) (by decide +kernel)
set_option maxRecDepth 20000 in
theorem gX7_renew_X7_anew : GoodIn wsX7_renew (wsV RX7 78 RX7 yX7_anew wsX7_anew) := goodIn_app (goodIn_of _ (by decide +kernel)) ggX7_renew_X7_anew
theorem dX7_renew_0 : decode cX7_renew 0 = .ok (.aload_n 0, 1) := by decide +kernel
theorem dX7_renew_1 : decode cX7_renew 1 = .ok (.iconst 0, 1) := by decide +kernel
theorem dX7_renew_2 : decode cX7_renew 2 = .ok (.putfield 29, 3) := by decide +kernel
theorem dX7_renew_5 : decode cX7_renew 5 = .ok (.aload_n 0, 1) := by decide +kernel
theorem dX7_renew_6 : decode cX7_renew 6 = .ok (.invokevirtual 62, 3) := by decide +kernel
theorem dX7_renew_9 : decode cX7_renew 9 = .ok (.aload_n 0, 1) := by decide +kernel
theorem dX7_renew_10 : decode cX7_renew 10 = .ok (.getfield 7, 3) := by decide +kernel
theorem dX7_renew_13 : decode cX7_renew 13 = .ok (.iconst 1, 1) := by decide +kernel
theorem dX7_renew_14 : decode cX7_renew 14 = .ok (.iaload, 1) := by decide +kernel
theorem dX7_renew_15 : decode cX7_renew 15 = .ok (.invokestatic 75, 3) := by decide +kernel
theorem dX7_renew_18 : decode cX7_renew 18 = .ok (.istore_n 1, 1) := by decide +kernel
theorem dX7_renew_19 : decode cX7_renew 19 = .ok (.aload_n 0, 1) := by decide +kernel
theorem dX7_renew_20 : decode cX7_renew 20 = .ok (.iconst 0, 1) := by decide +kernel
theorem dX7_renew_21 : decode cX7_renew 21 = .ok (.invokevirtual 78, 3) := by decide +kernel
theorem dX7_renew_24 : decode cX7_renew 24 = .ok (.iload_n 1, 1) := by decide +kernel
theorem dX7_renew_25 : decode cX7_renew 25 = .ok (.ireturn, 1) := by decide +kernel
set_option maxRecDepth 20000 in
theorem ggX7_asks_X7_keptFor : GoodIn wsX7_asks wsX7_keptFor := goodIn_r _ [6, 1, 7, 8, 9, 5, 10, 20, 21, 22, 23, 24, 25, 26, 27, 28, 29] (by decide +kernel) (by decide +kernel)
set_option maxRecDepth 20000 in
theorem gX7_asks_X7_keptFor : GoodIn wsX7_asks (wsV RX7 81 RX7 yX7_keptFor wsX7_keptFor) := goodIn_app (goodIn_of _ (by decide +kernel)) ggX7_asks_X7_keptFor
set_option maxRecDepth 20000 in
theorem ggX7_asks_X7_touch : GoodIn wsX7_asks wsX7_touch := goodIn_r _ [14, 1, 15, 16, 17, 18, 5, 19, 20, 21, 22, 23, 24, 25, 26, 27, 28, 29] (by decide +kernel) (by decide +kernel)
set_option maxRecDepth 20000 in
theorem gX7_asks_X7_touch : GoodIn wsX7_asks (wsV RX7 84 RX7 yX7_touch wsX7_touch) := goodIn_app (goodIn_of _ (by decide +kernel)) ggX7_asks_X7_touch
theorem dX7_asks_0 : decode cX7_asks 0 = .ok (.aload_n 0, 1) := by decide +kernel
theorem dX7_asks_1 : decode cX7_asks 1 = .ok (.getfield 7, 3) := by decide +kernel
theorem dX7_asks_4 : decode cX7_asks 4 = .ok (.bipush 17, 2) := by decide +kernel
theorem dX7_asks_6 : decode cX7_asks 6 = .ok (.iaload, 1) := by decide +kernel
theorem dX7_asks_7 : decode cX7_asks 7 = .ok (.bipush 12, 2) := by decide +kernel
theorem dX7_asks_9 : decode cX7_asks 9 = .ok (.if_icmp .eq 13, 3) := by decide +kernel
theorem dX7_asks_12 : decode cX7_asks 12 = .ok (.aload_n 0, 1) := by decide +kernel
theorem dX7_asks_13 : decode cX7_asks 13 = .ok (.iload_n 1, 1) := by decide +kernel
theorem dX7_asks_14 : decode cX7_asks 14 = .ok (.iload_n 2, 1) := by decide +kernel
theorem dX7_asks_15 : decode cX7_asks 15 = .ok (.invokevirtual 81, 3) := by decide +kernel
theorem dX7_asks_18 : decode cX7_asks 18 = .ok (.iconst (-1), 1) := by decide +kernel
theorem dX7_asks_19 : decode cX7_asks 19 = .ok (.if_icmp .eq 16, 3) := by decide +kernel
theorem dX7_asks_22 : decode cX7_asks 22 = .ok (.aload_n 0, 1) := by decide +kernel
theorem dX7_asks_23 : decode cX7_asks 23 = .ok (.getfield 7, 3) := by decide +kernel
theorem dX7_asks_26 : decode cX7_asks 26 = .ok (.bipush 57, 2) := by decide +kernel
theorem dX7_asks_28 : decode cX7_asks 28 = .ok (.dup2, 1) := by decide +kernel
theorem dX7_asks_29 : decode cX7_asks 29 = .ok (.iaload, 1) := by decide +kernel
theorem dX7_asks_30 : decode cX7_asks 30 = .ok (.iconst 1, 1) := by decide +kernel
theorem dX7_asks_31 : decode cX7_asks 31 = .ok (.iadd, 1) := by decide +kernel
theorem dX7_asks_32 : decode cX7_asks 32 = .ok (.iastore, 1) := by decide +kernel
theorem dX7_asks_33 : decode cX7_asks 33 = .ok (.iconst (-1), 1) := by decide +kernel
theorem dX7_asks_34 : decode cX7_asks 34 = .ok (.ireturn, 1) := by decide +kernel
theorem dX7_asks_35 : decode cX7_asks 35 = .ok (.bipush 18, 2) := by decide +kernel
theorem dX7_asks_37 : decode cX7_asks 37 = .ok (.iconst 3, 1) := by decide +kernel
theorem dX7_asks_38 : decode cX7_asks 38 = .ok (.aload_n 0, 1) := by decide +kernel
theorem dX7_asks_39 : decode cX7_asks 39 = .ok (.getfield 7, 3) := by decide +kernel
theorem dX7_asks_42 : decode cX7_asks 42 = .ok (.bipush 17, 2) := by decide +kernel
theorem dX7_asks_44 : decode cX7_asks 44 = .ok (.iaload, 1) := by decide +kernel
theorem dX7_asks_45 : decode cX7_asks 45 = .ok (.imul, 1) := by decide +kernel
theorem dX7_asks_46 : decode cX7_asks 46 = .ok (.iadd, 1) := by decide +kernel
theorem dX7_asks_47 : decode cX7_asks 47 = .ok (.istore_n 3, 1) := by decide +kernel
theorem dX7_asks_48 : decode cX7_asks 48 = .ok (.aload_n 0, 1) := by decide +kernel
theorem dX7_asks_49 : decode cX7_asks 49 = .ok (.iload_n 1, 1) := by decide +kernel
theorem dX7_asks_50 : decode cX7_asks 50 = .ok (.iload_n 2, 1) := by decide +kernel
theorem dX7_asks_51 : decode cX7_asks 51 = .ok (.invokevirtual 84, 3) := by decide +kernel
theorem dX7_asks_54 : decode cX7_asks 54 = .ok (.ifCond .eq 7, 3) := by decide +kernel
theorem dX7_asks_57 : decode cX7_asks 57 = .ok (.iconst 1, 1) := by decide +kernel
theorem dX7_asks_58 : decode cX7_asks 58 = .ok (.goto 4, 3) := by decide +kernel
theorem dX7_asks_61 : decode cX7_asks 61 = .ok (.iconst 0, 1) := by decide +kernel
theorem dX7_asks_62 : decode cX7_asks 62 = .ok (.istore 4, 2) := by decide +kernel
theorem dX7_asks_64 : decode cX7_asks 64 = .ok (.aload_n 0, 1) := by decide +kernel
theorem dX7_asks_65 : decode cX7_asks 65 = .ok (.getfield 7, 3) := by decide +kernel
theorem dX7_asks_68 : decode cX7_asks 68 = .ok (.iload_n 3, 1) := by decide +kernel
theorem dX7_asks_69 : decode cX7_asks 69 = .ok (.iload_n 1, 1) := by decide +kernel
theorem dX7_asks_70 : decode cX7_asks 70 = .ok (.iastore, 1) := by decide +kernel
theorem dX7_asks_71 : decode cX7_asks 71 = .ok (.aload_n 0, 1) := by decide +kernel
theorem dX7_asks_72 : decode cX7_asks 72 = .ok (.getfield 7, 3) := by decide +kernel
theorem dX7_asks_75 : decode cX7_asks 75 = .ok (.iload_n 3, 1) := by decide +kernel
theorem dX7_asks_76 : decode cX7_asks 76 = .ok (.iconst 1, 1) := by decide +kernel
theorem dX7_asks_77 : decode cX7_asks 77 = .ok (.iadd, 1) := by decide +kernel
theorem dX7_asks_78 : decode cX7_asks 78 = .ok (.iload_n 2, 1) := by decide +kernel
theorem dX7_asks_79 : decode cX7_asks 79 = .ok (.iastore, 1) := by decide +kernel
theorem dX7_asks_80 : decode cX7_asks 80 = .ok (.aload_n 0, 1) := by decide +kernel
theorem dX7_asks_81 : decode cX7_asks 81 = .ok (.getfield 7, 3) := by decide +kernel
theorem dX7_asks_84 : decode cX7_asks 84 = .ok (.iload_n 3, 1) := by decide +kernel
theorem dX7_asks_85 : decode cX7_asks 85 = .ok (.iconst 2, 1) := by decide +kernel
theorem dX7_asks_86 : decode cX7_asks 86 = .ok (.iadd, 1) := by decide +kernel
theorem dX7_asks_87 : decode cX7_asks 87 = .ok (.iload 4, 2) := by decide +kernel
theorem dX7_asks_89 : decode cX7_asks 89 = .ok (.iastore, 1) := by decide +kernel
theorem dX7_asks_90 : decode cX7_asks 90 = .ok (.aload_n 0, 1) := by decide +kernel
theorem dX7_asks_91 : decode cX7_asks 91 = .ok (.getfield 7, 3) := by decide +kernel
theorem dX7_asks_94 : decode cX7_asks 94 = .ok (.bipush 17, 2) := by decide +kernel
theorem dX7_asks_96 : decode cX7_asks 96 = .ok (.dup2, 1) := by decide +kernel
theorem dX7_asks_97 : decode cX7_asks 97 = .ok (.iaload, 1) := by decide +kernel
theorem dX7_asks_98 : decode cX7_asks 98 = .ok (.iconst 1, 1) := by decide +kernel
theorem dX7_asks_99 : decode cX7_asks 99 = .ok (.iadd, 1) := by decide +kernel
theorem dX7_asks_100 : decode cX7_asks 100 = .ok (.iastore, 1) := by decide +kernel
theorem dX7_asks_101 : decode cX7_asks 101 = .ok (.aload_n 0, 1) := by decide +kernel
theorem dX7_asks_102 : decode cX7_asks 102 = .ok (.getfield 7, 3) := by decide +kernel
theorem dX7_asks_105 : decode cX7_asks 105 = .ok (.bipush 54, 2) := by decide +kernel
theorem dX7_asks_107 : decode cX7_asks 107 = .ok (.dup2, 1) := by decide +kernel
theorem dX7_asks_108 : decode cX7_asks 108 = .ok (.iaload, 1) := by decide +kernel
theorem dX7_asks_109 : decode cX7_asks 109 = .ok (.iconst 1, 1) := by decide +kernel
theorem dX7_asks_110 : decode cX7_asks 110 = .ok (.iadd, 1) := by decide +kernel
theorem dX7_asks_111 : decode cX7_asks 111 = .ok (.iastore, 1) := by decide +kernel
theorem dX7_asks_112 : decode cX7_asks 112 = .ok (.iload 4, 2) := by decide +kernel
theorem dX7_asks_114 : decode cX7_asks 114 = .ok (.ireturn, 1) := by decide +kernel
set_option maxRecDepth 20000 in
theorem ggX7_ask_X7_isTown : GoodIn wsX7_ask wsX7_isTown := goodIn_r _ [5, 6, 7, 4, 8] (by decide +kernel) (by decide +kernel)
set_option maxRecDepth 20000 in
theorem gX7_ask_X7_isTown : GoodIn wsX7_ask (va_wsS RX7 69 yX7_isTown wsX7_isTown) := goodIn_app (goodIn_of _ (by decide +kernel)) ggX7_ask_X7_isTown
set_option maxRecDepth 20000 in
theorem ggX7_ask_X7_holds : GoodIn wsX7_ask wsX7_holds := goodIn_r _ [12, 13, 41, 42, 43, 44, 45, 46, 47, 48, 49, 50] (by decide +kernel) (by decide +kernel)
set_option maxRecDepth 20000 in
theorem gX7_ask_X7_holds : GoodIn wsX7_ask (wsV RX7 59 RX7 yX7_holds wsX7_holds) := goodIn_app (goodIn_of _ (by decide +kernel)) ggX7_ask_X7_holds
set_option maxRecDepth 20000 in
theorem ggX7_ask_X7_save : GoodIn wsX7_ask wsX7_save := goodIn_r _ [17, 18, 19, 1, 41, 42, 43, 44, 45, 46, 47, 48, 49, 50] (by decide +kernel) (by decide +kernel)
set_option maxRecDepth 20000 in
theorem gX7_ask_X7_save : GoodIn wsX7_ask (wsV RX7 62 RX7 yX7_save wsX7_save) := goodIn_app (goodIn_of _ (by decide +kernel)) ggX7_ask_X7_save
set_option maxRecDepth 20000 in
theorem ggX7_ask_X7_asks : GoodIn wsX7_ask wsX7_asks := goodIn_r _ [23, 1, 24, 25, 26, 4, 27, 28, 29, 30, 31, 32, 33, 34, 35, 36, 37, 38, 39, 40, 41, 42, 43, 44, 45, 46, 47, 48, 49, 50] (by decide +kernel) (by decide +kernel)
set_option maxRecDepth 20000 in
theorem gX7_ask_X7_asks : GoodIn wsX7_ask (wsV RX7 88 RX7 yX7_asks wsX7_asks) := goodIn_app (goodIn_of _ (by decide +kernel)) ggX7_ask_X7_asks
theorem dX7_ask_0 : decode cX7_ask 0 = .ok (.aload_n 0, 1) := by decide +kernel
theorem dX7_ask_1 : decode cX7_ask 1 = .ok (.iload_n 1, 1) := by decide +kernel
theorem dX7_ask_2 : decode cX7_ask 2 = .ok (.invokestatic 69, 3) := by decide +kernel
theorem dX7_ask_5 : decode cX7_ask 5 = .ok (.ifCond .eq 10, 3) := by decide +kernel
theorem dX7_ask_8 : decode cX7_ask 8 = .ok (.iload_n 2, 1) := by decide +kernel
theorem dX7_ask_9 : decode cX7_ask 9 = .ok (.invokestatic 69, 3) := by decide +kernel
theorem dX7_ask_12 : decode cX7_ask 12 = .ok (.ifCond .ne 7, 3) := by decide +kernel
theorem dX7_ask_15 : decode cX7_ask 15 = .ok (.iconst 1, 1) := by decide +kernel
theorem dX7_ask_16 : decode cX7_ask 16 = .ok (.goto 13, 3) := by decide +kernel
theorem dX7_ask_19 : decode cX7_ask 19 = .ok (.iload_n 1, 1) := by decide +kernel
theorem dX7_ask_20 : decode cX7_ask 20 = .ok (.iload_n 2, 1) := by decide +kernel
theorem dX7_ask_21 : decode cX7_ask 21 = .ok (.if_icmp .ne 7, 3) := by decide +kernel
theorem dX7_ask_24 : decode cX7_ask 24 = .ok (.iconst 2, 1) := by decide +kernel
theorem dX7_ask_25 : decode cX7_ask 25 = .ok (.goto 4, 3) := by decide +kernel
theorem dX7_ask_28 : decode cX7_ask 28 = .ok (.iconst 0, 1) := by decide +kernel
theorem dX7_ask_29 : decode cX7_ask 29 = .ok (.invokevirtual 59, 3) := by decide +kernel
theorem dX7_ask_32 : decode cX7_ask 32 = .ok (.ifCond .ne 5, 3) := by decide +kernel
theorem dX7_ask_35 : decode cX7_ask 35 = .ok (.iconst 0, 1) := by decide +kernel
theorem dX7_ask_36 : decode cX7_ask 36 = .ok (.ireturn, 1) := by decide +kernel
theorem dX7_ask_37 : decode cX7_ask 37 = .ok (.aload_n 0, 1) := by decide +kernel
theorem dX7_ask_38 : decode cX7_ask 38 = .ok (.invokevirtual 62, 3) := by decide +kernel
theorem dX7_ask_41 : decode cX7_ask 41 = .ok (.aload_n 0, 1) := by decide +kernel
theorem dX7_ask_42 : decode cX7_ask 42 = .ok (.aload_n 0, 1) := by decide +kernel
theorem dX7_ask_43 : decode cX7_ask 43 = .ok (.getfield 7, 3) := by decide +kernel
theorem dX7_ask_46 : decode cX7_ask 46 = .ok (.bipush 11, 2) := by decide +kernel
theorem dX7_ask_48 : decode cX7_ask 48 = .ok (.iload_n 1, 1) := by decide +kernel
theorem dX7_ask_49 : decode cX7_ask 49 = .ok (.iadd, 1) := by decide +kernel
theorem dX7_ask_50 : decode cX7_ask 50 = .ok (.iaload, 1) := by decide +kernel
theorem dX7_ask_51 : decode cX7_ask 51 = .ok (.aload_n 0, 1) := by decide +kernel
theorem dX7_ask_52 : decode cX7_ask 52 = .ok (.getfield 7, 3) := by decide +kernel
theorem dX7_ask_55 : decode cX7_ask 55 = .ok (.bipush 11, 2) := by decide +kernel
theorem dX7_ask_57 : decode cX7_ask 57 = .ok (.iload_n 2, 1) := by decide +kernel
theorem dX7_ask_58 : decode cX7_ask 58 = .ok (.iadd, 1) := by decide +kernel
theorem dX7_ask_59 : decode cX7_ask 59 = .ok (.iaload, 1) := by decide +kernel
theorem dX7_ask_60 : decode cX7_ask 60 = .ok (.invokevirtual 88, 3) := by decide +kernel
theorem dX7_ask_63 : decode cX7_ask 63 = .ok (.ireturn, 1) := by decide +kernel
set_option maxRecDepth 20000 in
theorem ggX7_guess_X7_in : GoodIn wsX7_guess wsX7_in := goodIn_r _ [5] (by decide +kernel) (by decide +kernel)
set_option maxRecDepth 20000 in
theorem gX7_guess_X7_in : GoodIn wsX7_guess (va_wsS RX7 33 yX7_in wsX7_in) := goodIn_app (goodIn_of _ (by decide +kernel)) ggX7_guess_X7_in
set_option maxRecDepth 20000 in
theorem ggX7_guess_X7_holds : GoodIn wsX7_guess wsX7_holds := goodIn_r _ [9, 10, 20, 21, 22, 23, 24, 25, 26, 27, 28, 29] (by decide +kernel) (by decide +kernel)
set_option maxRecDepth 20000 in
theorem gX7_guess_X7_holds : GoodIn wsX7_guess (wsV RX7 59 RX7 yX7_holds wsX7_holds) := goodIn_app (goodIn_of _ (by decide +kernel)) ggX7_guess_X7_holds
set_option maxRecDepth 20000 in
theorem ggX7_guess_X7_save : GoodIn wsX7_guess wsX7_save := goodIn_r _ [14, 15, 16, 1, 20, 21, 22, 23, 24, 25, 26, 27, 28, 29] (by decide +kernel) (by decide +kernel)
set_option maxRecDepth 20000 in
theorem gX7_guess_X7_save : GoodIn wsX7_guess (wsV RX7 62 RX7 yX7_save wsX7_save) := goodIn_app (goodIn_of _ (by decide +kernel)) ggX7_guess_X7_save
set_option maxRecDepth 20000 in
theorem ggX7_guess_X7_bits : GoodIn wsX7_guess wsX7_bits := goodIn_r _ [19] (by decide +kernel) (by decide +kernel)
set_option maxRecDepth 20000 in
theorem gX7_guess_X7_bits : GoodIn wsX7_guess (va_wsS RX7 75 yX7_bits wsX7_bits) := goodIn_app (goodIn_of _ (by decide +kernel)) ggX7_guess_X7_bits
theorem dX7_guess_0 : decode cX7_guess 0 = .ok (.aload_n 0, 1) := by decide +kernel
theorem dX7_guess_1 : decode cX7_guess 1 = .ok (.iload_n 1, 1) := by decide +kernel
theorem dX7_guess_2 : decode cX7_guess 2 = .ok (.iconst 0, 1) := by decide +kernel
theorem dX7_guess_3 : decode cX7_guess 3 = .ok (.sipush 511, 3) := by decide +kernel
theorem dX7_guess_6 : decode cX7_guess 6 = .ok (.invokestatic 33, 3) := by decide +kernel
theorem dX7_guess_9 : decode cX7_guess 9 = .ok (.ifCond .eq 7, 3) := by decide +kernel
theorem dX7_guess_12 : decode cX7_guess 12 = .ok (.iconst 0, 1) := by decide +kernel
theorem dX7_guess_13 : decode cX7_guess 13 = .ok (.goto 4, 3) := by decide +kernel
theorem dX7_guess_16 : decode cX7_guess 16 = .ok (.iconst 1, 1) := by decide +kernel
theorem dX7_guess_17 : decode cX7_guess 17 = .ok (.invokevirtual 59, 3) := by decide +kernel
theorem dX7_guess_20 : decode cX7_guess 20 = .ok (.ifCond .ne 5, 3) := by decide +kernel
theorem dX7_guess_23 : decode cX7_guess 23 = .ok (.iconst 0, 1) := by decide +kernel
theorem dX7_guess_24 : decode cX7_guess 24 = .ok (.ireturn, 1) := by decide +kernel
theorem dX7_guess_25 : decode cX7_guess 25 = .ok (.aload_n 0, 1) := by decide +kernel
theorem dX7_guess_26 : decode cX7_guess 26 = .ok (.invokevirtual 62, 3) := by decide +kernel
theorem dX7_guess_29 : decode cX7_guess 29 = .ok (.iload_n 1, 1) := by decide +kernel
theorem dX7_guess_30 : decode cX7_guess 30 = .ok (.aload_n 0, 1) := by decide +kernel
theorem dX7_guess_31 : decode cX7_guess 31 = .ok (.getfield 7, 3) := by decide +kernel
theorem dX7_guess_34 : decode cX7_guess 34 = .ok (.iconst 0, 1) := by decide +kernel
theorem dX7_guess_35 : decode cX7_guess 35 = .ok (.iaload, 1) := by decide +kernel
theorem dX7_guess_36 : decode cX7_guess 36 = .ok (.if_icmp .ne 7, 3) := by decide +kernel
theorem dX7_guess_39 : decode cX7_guess 39 = .ok (.iconst 1, 1) := by decide +kernel
theorem dX7_guess_40 : decode cX7_guess 40 = .ok (.goto 4, 3) := by decide +kernel
theorem dX7_guess_43 : decode cX7_guess 43 = .ok (.iconst 0, 1) := by decide +kernel
theorem dX7_guess_44 : decode cX7_guess 44 = .ok (.istore_n 2, 1) := by decide +kernel
theorem dX7_guess_45 : decode cX7_guess 45 = .ok (.aload_n 0, 1) := by decide +kernel
theorem dX7_guess_46 : decode cX7_guess 46 = .ok (.getfield 7, 3) := by decide +kernel
theorem dX7_guess_49 : decode cX7_guess 49 = .ok (.bipush 55, 2) := by decide +kernel
theorem dX7_guess_51 : decode cX7_guess 51 = .ok (.dup2, 1) := by decide +kernel
theorem dX7_guess_52 : decode cX7_guess 52 = .ok (.iaload, 1) := by decide +kernel
theorem dX7_guess_53 : decode cX7_guess 53 = .ok (.iconst 1, 1) := by decide +kernel
theorem dX7_guess_54 : decode cX7_guess 54 = .ok (.iadd, 1) := by decide +kernel
theorem dX7_guess_55 : decode cX7_guess 55 = .ok (.iastore, 1) := by decide +kernel
theorem dX7_guess_56 : decode cX7_guess 56 = .ok (.aload_n 0, 1) := by decide +kernel
theorem dX7_guess_57 : decode cX7_guess 57 = .ok (.getfield 7, 3) := by decide +kernel
theorem dX7_guess_60 : decode cX7_guess 60 = .ok (.bipush 56, 2) := by decide +kernel
theorem dX7_guess_62 : decode cX7_guess 62 = .ok (.dup2, 1) := by decide +kernel
theorem dX7_guess_63 : decode cX7_guess 63 = .ok (.iaload, 1) := by decide +kernel
theorem dX7_guess_64 : decode cX7_guess 64 = .ok (.iload_n 2, 1) := by decide +kernel
theorem dX7_guess_65 : decode cX7_guess 65 = .ok (.ifCond .eq 7, 3) := by decide +kernel
theorem dX7_guess_68 : decode cX7_guess 68 = .ok (.iconst 1, 1) := by decide +kernel
theorem dX7_guess_69 : decode cX7_guess 69 = .ok (.goto 4, 3) := by decide +kernel
theorem dX7_guess_72 : decode cX7_guess 72 = .ok (.iconst 0, 1) := by decide +kernel
theorem dX7_guess_73 : decode cX7_guess 73 = .ok (.iadd, 1) := by decide +kernel
theorem dX7_guess_74 : decode cX7_guess 74 = .ok (.iastore, 1) := by decide +kernel
theorem dX7_guess_75 : decode cX7_guess 75 = .ok (.iload_n 2, 1) := by decide +kernel
theorem dX7_guess_76 : decode cX7_guess 76 = .ok (.ifCond .eq 8, 3) := by decide +kernel
theorem dX7_guess_79 : decode cX7_guess 79 = .ok (.bipush 10, 2) := by decide +kernel
theorem dX7_guess_81 : decode cX7_guess 81 = .ok (.goto 17, 3) := by decide +kernel
theorem dX7_guess_84 : decode cX7_guess 84 = .ok (.bipush 9, 2) := by decide +kernel
theorem dX7_guess_86 : decode cX7_guess 86 = .ok (.iload_n 1, 1) := by decide +kernel
theorem dX7_guess_87 : decode cX7_guess 87 = .ok (.aload_n 0, 1) := by decide +kernel
theorem dX7_guess_88 : decode cX7_guess 88 = .ok (.getfield 7, 3) := by decide +kernel
theorem dX7_guess_91 : decode cX7_guess 91 = .ok (.iconst 0, 1) := by decide +kernel
theorem dX7_guess_92 : decode cX7_guess 92 = .ok (.iaload, 1) := by decide +kernel
theorem dX7_guess_93 : decode cX7_guess 93 = .ok (.ixor, 1) := by decide +kernel
theorem dX7_guess_94 : decode cX7_guess 94 = .ok (.invokestatic 75, 3) := by decide +kernel
theorem dX7_guess_97 : decode cX7_guess 97 = .ok (.isub, 1) := by decide +kernel
theorem dX7_guess_98 : decode cX7_guess 98 = .ok (.ireturn, 1) := by decide +kernel
set_option maxRecDepth 20000 in
theorem ggX7_forget_X7_save : GoodIn wsX7_forget wsX7_save := goodIn_r _ [6, 7, 8, 9, 14, 15, 16, 17, 18, 19, 20, 21, 22, 23] (by decide +kernel) (by decide +kernel)
set_option maxRecDepth 20000 in
theorem gX7_forget_X7_save : GoodIn wsX7_forget (wsV RX7 62 RX7 yX7_save wsX7_save) := goodIn_app (goodIn_of _ (by decide +kernel)) ggX7_forget_X7_save
set_option maxRecDepth 20000 in
theorem ggX7_forget_X7_takesAway : GoodIn wsX7_forget wsX7_takesAway := goodIn_r _ [13, 9, 14, 15, 16, 17, 18, 19, 20, 21, 22, 23] (by decide +kernel) (by decide +kernel)
set_option maxRecDepth 20000 in
theorem gX7_forget_X7_takesAway : GoodIn wsX7_forget (wsV RX7 52 RX7 yX7_takesAway wsX7_takesAway) := goodIn_app (goodIn_of _ (by decide +kernel)) ggX7_forget_X7_takesAway
theorem dX7_forget_0 : decode cX7_forget 0 = .ok (.aload_n 0, 1) := by decide +kernel
theorem dX7_forget_1 : decode cX7_forget 1 = .ok (.iconst 0, 1) := by decide +kernel
theorem dX7_forget_2 : decode cX7_forget 2 = .ok (.putfield 29, 3) := by decide +kernel
theorem dX7_forget_5 : decode cX7_forget 5 = .ok (.aload_n 0, 1) := by decide +kernel
theorem dX7_forget_6 : decode cX7_forget 6 = .ok (.invokevirtual 62, 3) := by decide +kernel
theorem dX7_forget_9 : decode cX7_forget 9 = .ok (.aload_n 0, 1) := by decide +kernel
theorem dX7_forget_10 : decode cX7_forget 10 = .ok (.invokevirtual 52, 3) := by decide +kernel
theorem dX7_forget_13 : decode cX7_forget 13 = .ok (.ireturn, 1) := by decide +kernel
set_option maxRecDepth 20000 in
theorem ggX7_append_X7_in : GoodIn wsX7_append wsX7_in := goodIn_r _ [6] (by decide +kernel) (by decide +kernel)
set_option maxRecDepth 20000 in
theorem gX7_append_X7_in : GoodIn wsX7_append (va_wsS RX7 33 yX7_in wsX7_in) := goodIn_app (goodIn_of _ (by decide +kernel)) ggX7_append_X7_in
set_option maxRecDepth 20000 in
theorem ggX7_append_X7_holds : GoodIn wsX7_append wsX7_holds := goodIn_r _ [10, 11, 12, 13, 14, 15, 16, 17, 18, 19, 20, 21] (by decide +kernel) (by decide +kernel)
set_option maxRecDepth 20000 in
theorem gX7_append_X7_holds : GoodIn wsX7_append (wsV RX7 59 RX7 yX7_holds wsX7_holds) := goodIn_app (goodIn_of _ (by decide +kernel)) ggX7_append_X7_holds
theorem dX7_append_0 : decode cX7_append 0 = .ok (.aload_n 0, 1) := by decide +kernel
theorem dX7_append_1 : decode cX7_append 1 = .ok (.iload_n 1, 1) := by decide +kernel
theorem dX7_append_2 : decode cX7_append 2 = .ok (.bipush 33, 2) := by decide +kernel
theorem dX7_append_4 : decode cX7_append 4 = .ok (.bipush 126, 2) := by decide +kernel
theorem dX7_append_6 : decode cX7_append 6 = .ok (.invokestatic 33, 3) := by decide +kernel
theorem dX7_append_9 : decode cX7_append 9 = .ok (.ifCond .ne 7, 3) := by decide +kernel
theorem dX7_append_12 : decode cX7_append 12 = .ok (.iconst 1, 1) := by decide +kernel
theorem dX7_append_13 : decode cX7_append 13 = .ok (.goto 17, 3) := by decide +kernel
theorem dX7_append_16 : decode cX7_append 16 = .ok (.aload_n 0, 1) := by decide +kernel
theorem dX7_append_17 : decode cX7_append 17 = .ok (.getfield 91, 3) := by decide +kernel
theorem dX7_append_20 : decode cX7_append 20 = .ok (.bipush 60, 2) := by decide +kernel
theorem dX7_append_22 : decode cX7_append 22 = .ok (.if_icmp .ne 7, 3) := by decide +kernel
theorem dX7_append_25 : decode cX7_append 25 = .ok (.iconst 2, 1) := by decide +kernel
theorem dX7_append_26 : decode cX7_append 26 = .ok (.goto 4, 3) := by decide +kernel
theorem dX7_append_29 : decode cX7_append 29 = .ok (.iconst 0, 1) := by decide +kernel
theorem dX7_append_30 : decode cX7_append 30 = .ok (.invokevirtual 59, 3) := by decide +kernel
theorem dX7_append_33 : decode cX7_append 33 = .ok (.ifCond .ne 5, 3) := by decide +kernel
theorem dX7_append_36 : decode cX7_append 36 = .ok (.iconst 0, 1) := by decide +kernel
theorem dX7_append_37 : decode cX7_append 37 = .ok (.ireturn, 1) := by decide +kernel
theorem dX7_append_38 : decode cX7_append 38 = .ok (.aload_n 0, 1) := by decide +kernel
theorem dX7_append_39 : decode cX7_append 39 = .ok (.getfield 23, 3) := by decide +kernel
theorem dX7_append_42 : decode cX7_append 42 = .ok (.aload_n 0, 1) := by decide +kernel
theorem dX7_append_43 : decode cX7_append 43 = .ok (.getfield 91, 3) := by decide +kernel
theorem dX7_append_46 : decode cX7_append 46 = .ok (.iload_n 1, 1) := by decide +kernel
theorem dX7_append_47 : decode cX7_append 47 = .ok (.iastore, 1) := by decide +kernel
theorem dX7_append_48 : decode cX7_append 48 = .ok (.aload_n 0, 1) := by decide +kernel
theorem dX7_append_49 : decode cX7_append 49 = .ok (.dup, 1) := by decide +kernel
theorem dX7_append_50 : decode cX7_append 50 = .ok (.getfield 91, 3) := by decide +kernel
theorem dX7_append_53 : decode cX7_append 53 = .ok (.iconst 1, 1) := by decide +kernel
theorem dX7_append_54 : decode cX7_append 54 = .ok (.iadd, 1) := by decide +kernel
theorem dX7_append_55 : decode cX7_append 55 = .ok (.putfield 91, 3) := by decide +kernel
theorem dX7_append_58 : decode cX7_append 58 = .ok (.aload_n 0, 1) := by decide +kernel
theorem dX7_append_59 : decode cX7_append 59 = .ok (.getfield 91, 3) := by decide +kernel
theorem dX7_append_62 : decode cX7_append 62 = .ok (.ireturn, 1) := by decide +kernel
theorem dX7_clearBuffer_0 : decode cX7_clearBuffer 0 = .ok (.aload_n 0, 1) := by decide +kernel
theorem dX7_clearBuffer_1 : decode cX7_clearBuffer 1 = .ok (.iconst 0, 1) := by decide +kernel
theorem dX7_clearBuffer_2 : decode cX7_clearBuffer 2 = .ok (.putfield 29, 3) := by decide +kernel
theorem dX7_clearBuffer_5 : decode cX7_clearBuffer 5 = .ok (.aload_n 0, 1) := by decide +kernel
theorem dX7_clearBuffer_6 : decode cX7_clearBuffer 6 = .ok (.getfield 91, 3) := by decide +kernel
theorem dX7_clearBuffer_9 : decode cX7_clearBuffer 9 = .ok (.istore_n 1, 1) := by decide +kernel
theorem dX7_clearBuffer_10 : decode cX7_clearBuffer 10 = .ok (.aload_n 0, 1) := by decide +kernel
theorem dX7_clearBuffer_11 : decode cX7_clearBuffer 11 = .ok (.iconst 0, 1) := by decide +kernel
theorem dX7_clearBuffer_12 : decode cX7_clearBuffer 12 = .ok (.putfield 91, 3) := by decide +kernel
theorem dX7_clearBuffer_15 : decode cX7_clearBuffer 15 = .ok (.iload_n 1, 1) := by decide +kernel
theorem dX7_clearBuffer_16 : decode cX7_clearBuffer 16 = .ok (.ireturn, 1) := by decide +kernel
theorem dX7_isMark_0 : decode cX7_isMark 0 = .ok (.iload_n 0, 1) := by decide +kernel
theorem dX7_isMark_1 : decode cX7_isMark 1 = .ok (.bipush 124, 2) := by decide +kernel
theorem dX7_isMark_3 : decode cX7_isMark 3 = .ok (.if_icmp .eq 9, 3) := by decide +kernel
theorem dX7_isMark_6 : decode cX7_isMark 6 = .ok (.iload_n 0, 1) := by decide +kernel
theorem dX7_isMark_7 : decode cX7_isMark 7 = .ok (.bipush 94, 2) := by decide +kernel
theorem dX7_isMark_9 : decode cX7_isMark 9 = .ok (.if_icmp .ne 7, 3) := by decide +kernel
theorem dX7_isMark_12 : decode cX7_isMark 12 = .ok (.iconst 1, 1) := by decide +kernel
theorem dX7_isMark_13 : decode cX7_isMark 13 = .ok (.goto 4, 3) := by decide +kernel
theorem dX7_isMark_16 : decode cX7_isMark 16 = .ok (.iconst 0, 1) := by decide +kernel
theorem dX7_isMark_17 : decode cX7_isMark 17 = .ok (.ireturn, 1) := by decide +kernel
set_option maxRecDepth 20000 in
theorem ggX7_right_X7_in : GoodIn wsX7_right wsX7_in := goodIn_r _ [6] (by decide +kernel) (by decide +kernel)
set_option maxRecDepth 20000 in
theorem gX7_right_X7_in : GoodIn wsX7_right (va_wsS RX7 33 yX7_in wsX7_in) := goodIn_app (goodIn_of _ (by decide +kernel)) ggX7_right_X7_in
set_option maxRecDepth 20000 in
theorem ggX7_right_X7_isMark : GoodIn wsX7_right wsX7_isMark := goodIn_r _ [9] (by decide +kernel) (by decide +kernel)
set_option maxRecDepth 20000 in
theorem gX7_right_X7_isMark : GoodIn wsX7_right (va_wsS RX7 94 yX7_isMark wsX7_isMark) := goodIn_app (goodIn_of _ (by decide +kernel)) ggX7_right_X7_isMark
theorem dX7_right_0 : decode cX7_right 0 = .ok (.iconst 0, 1) := by decide +kernel
theorem dX7_right_1 : decode cX7_right 1 = .ok (.istore_n 1, 1) := by decide +kernel
theorem dX7_right_2 : decode cX7_right 2 = .ok (.iconst 0, 1) := by decide +kernel
theorem dX7_right_3 : decode cX7_right 3 = .ok (.istore_n 2, 1) := by decide +kernel
theorem dX7_right_4 : decode cX7_right 4 = .ok (.iconst 0, 1) := by decide +kernel
theorem dX7_right_5 : decode cX7_right 5 = .ok (.istore_n 3, 1) := by decide +kernel
theorem dX7_right_6 : decode cX7_right 6 = .ok (.iload_n 3, 1) := by decide +kernel
theorem dX7_right_7 : decode cX7_right 7 = .ok (.aload_n 0, 1) := by decide +kernel
theorem dX7_right_8 : decode cX7_right 8 = .ok (.getfield 91, 3) := by decide +kernel
theorem dX7_right_11 : decode cX7_right 11 = .ok (.if_icmp .ge 101, 3) := by decide +kernel
theorem dX7_right_14 : decode cX7_right 14 = .ok (.aload_n 0, 1) := by decide +kernel
theorem dX7_right_15 : decode cX7_right 15 = .ok (.getfield 23, 3) := by decide +kernel
theorem dX7_right_18 : decode cX7_right 18 = .ok (.iload_n 3, 1) := by decide +kernel
theorem dX7_right_19 : decode cX7_right 19 = .ok (.iaload, 1) := by decide +kernel
theorem dX7_right_20 : decode cX7_right 20 = .ok (.istore 4, 2) := by decide +kernel
theorem dX7_right_22 : decode cX7_right 22 = .ok (.iload 4, 2) := by decide +kernel
theorem dX7_right_24 : decode cX7_right 24 = .ok (.bipush 97, 2) := by decide +kernel
theorem dX7_right_26 : decode cX7_right 26 = .ok (.bipush 102, 2) := by decide +kernel
theorem dX7_right_28 : decode cX7_right 28 = .ok (.invokestatic 33, 3) := by decide +kernel
theorem dX7_right_31 : decode cX7_right 31 = .ok (.ifCond .eq 19, 3) := by decide +kernel
theorem dX7_right_34 : decode cX7_right 34 = .ok (.iload_n 1, 1) := by decide +kernel
theorem dX7_right_35 : decode cX7_right 35 = .ok (.iload 4, 2) := by decide +kernel
theorem dX7_right_37 : decode cX7_right 37 = .ok (.bipush 97, 2) := by decide +kernel
theorem dX7_right_39 : decode cX7_right 39 = .ok (.isub, 1) := by decide +kernel
theorem dX7_right_40 : decode cX7_right 40 = .ok (.ishr, 1) := by decide +kernel
theorem dX7_right_41 : decode cX7_right 41 = .ok (.iconst 1, 1) := by decide +kernel
theorem dX7_right_42 : decode cX7_right 42 = .ok (.iand, 1) := by decide +kernel
theorem dX7_right_43 : decode cX7_right 43 = .ok (.ifCond .ne 7, 3) := by decide +kernel
theorem dX7_right_46 : decode cX7_right 46 = .ok (.iconst 1, 1) := by decide +kernel
theorem dX7_right_47 : decode cX7_right 47 = .ok (.goto 4, 3) := by decide +kernel
theorem dX7_right_50 : decode cX7_right 50 = .ok (.iconst 0, 1) := by decide +kernel
theorem dX7_right_51 : decode cX7_right 51 = .ok (.istore 5, 2) := by decide +kernel
theorem dX7_right_53 : decode cX7_right 53 = .ok (.iload 5, 2) := by decide +kernel
theorem dX7_right_55 : decode cX7_right 55 = .ok (.ifCond .ne 19, 3) := by decide +kernel
theorem dX7_right_58 : decode cX7_right 58 = .ok (.iload 4, 2) := by decide +kernel
theorem dX7_right_60 : decode cX7_right 60 = .ok (.invokestatic 94, 3) := by decide +kernel
theorem dX7_right_63 : decode cX7_right 63 = .ok (.ifCond .eq 9, 3) := by decide +kernel
theorem dX7_right_66 : decode cX7_right 66 = .ok (.iload_n 2, 1) := by decide +kernel
theorem dX7_right_67 : decode cX7_right 67 = .ok (.bipush 9, 2) := by decide +kernel
theorem dX7_right_69 : decode cX7_right 69 = .ok (.if_icmp .ne 5, 3) := by decide +kernel
theorem dX7_right_72 : decode cX7_right 72 = .ok (.iload_n 3, 1) := by decide +kernel
theorem dX7_right_73 : decode cX7_right 73 = .ok (.ireturn, 1) := by decide +kernel
theorem dX7_right_74 : decode cX7_right 74 = .ok (.iload_n 1, 1) := by decide +kernel
theorem dX7_right_75 : decode cX7_right 75 = .ok (.iload 5, 2) := by decide +kernel
theorem dX7_right_77 : decode cX7_right 77 = .ok (.ifCond .eq 13, 3) := by decide +kernel
theorem dX7_right_80 : decode cX7_right 80 = .ok (.iconst 1, 1) := by decide +kernel
theorem dX7_right_81 : decode cX7_right 81 = .ok (.iload 4, 2) := by decide +kernel
theorem dX7_right_83 : decode cX7_right 83 = .ok (.bipush 97, 2) := by decide +kernel
theorem dX7_right_85 : decode cX7_right 85 = .ok (.isub, 1) := by decide +kernel
theorem dX7_right_86 : decode cX7_right 86 = .ok (.ishl, 1) := by decide +kernel
theorem dX7_right_87 : decode cX7_right 87 = .ok (.goto 4, 3) := by decide +kernel
theorem dX7_right_90 : decode cX7_right 90 = .ok (.iconst 0, 1) := by decide +kernel
theorem dX7_right_91 : decode cX7_right 91 = .ok (.ior, 1) := by decide +kernel
theorem dX7_right_92 : decode cX7_right 92 = .ok (.istore_n 1, 1) := by decide +kernel
theorem dX7_right_93 : decode cX7_right 93 = .ok (.iload_n 2, 1) := by decide +kernel
theorem dX7_right_94 : decode cX7_right 94 = .ok (.iload 5, 2) := by decide +kernel
theorem dX7_right_96 : decode cX7_right 96 = .ok (.ifCond .eq 7, 3) := by decide +kernel
theorem dX7_right_99 : decode cX7_right 99 = .ok (.iconst 0, 1) := by decide +kernel
theorem dX7_right_100 : decode cX7_right 100 = .ok (.goto 4, 3) := by decide +kernel
theorem dX7_right_103 : decode cX7_right 103 = .ok (.iconst 1, 1) := by decide +kernel
theorem dX7_right_104 : decode cX7_right 104 = .ok (.iadd, 1) := by decide +kernel
theorem dX7_right_105 : decode cX7_right 105 = .ok (.istore_n 2, 1) := by decide +kernel
theorem dX7_right_106 : decode cX7_right 106 = .ok (.iinc 3 1, 3) := by decide +kernel
theorem dX7_right_109 : decode cX7_right 109 = .ok (.goto (-103), 3) := by decide +kernel
theorem dX7_right_112 : decode cX7_right 112 = .ok (.aload_n 0, 1) := by decide +kernel
theorem dX7_right_113 : decode cX7_right 113 = .ok (.getfield 91, 3) := by decide +kernel
theorem dX7_right_116 : decode cX7_right 116 = .ok (.ireturn, 1) := by decide +kernel
set_option maxRecDepth 20000 in
theorem ggX7_marks_X7_isMark : GoodIn wsX7_marks wsX7_isMark := goodIn_r _ [6] (by decide +kernel) (by decide +kernel)
set_option maxRecDepth 20000 in
theorem gX7_marks_X7_isMark : GoodIn wsX7_marks (va_wsS RX7 94 yX7_isMark wsX7_isMark) := goodIn_app (goodIn_of _ (by decide +kernel)) ggX7_marks_X7_isMark
theorem dX7_marks_0 : decode cX7_marks 0 = .ok (.iconst 0, 1) := by decide +kernel
theorem dX7_marks_1 : decode cX7_marks 1 = .ok (.istore_n 1, 1) := by decide +kernel
theorem dX7_marks_2 : decode cX7_marks 2 = .ok (.iconst 0, 1) := by decide +kernel
theorem dX7_marks_3 : decode cX7_marks 3 = .ok (.istore_n 2, 1) := by decide +kernel
theorem dX7_marks_4 : decode cX7_marks 4 = .ok (.iload_n 2, 1) := by decide +kernel
theorem dX7_marks_5 : decode cX7_marks 5 = .ok (.aload_n 0, 1) := by decide +kernel
theorem dX7_marks_6 : decode cX7_marks 6 = .ok (.getfield 91, 3) := by decide +kernel
theorem dX7_marks_9 : decode cX7_marks 9 = .ok (.if_icmp .ge 29, 3) := by decide +kernel
theorem dX7_marks_12 : decode cX7_marks 12 = .ok (.iload_n 1, 1) := by decide +kernel
theorem dX7_marks_13 : decode cX7_marks 13 = .ok (.aload_n 0, 1) := by decide +kernel
theorem dX7_marks_14 : decode cX7_marks 14 = .ok (.getfield 23, 3) := by decide +kernel
theorem dX7_marks_17 : decode cX7_marks 17 = .ok (.iload_n 2, 1) := by decide +kernel
theorem dX7_marks_18 : decode cX7_marks 18 = .ok (.iaload, 1) := by decide +kernel
theorem dX7_marks_19 : decode cX7_marks 19 = .ok (.invokestatic 94, 3) := by decide +kernel
theorem dX7_marks_22 : decode cX7_marks 22 = .ok (.ifCond .eq 7, 3) := by decide +kernel
theorem dX7_marks_25 : decode cX7_marks 25 = .ok (.iconst 1, 1) := by decide +kernel
theorem dX7_marks_26 : decode cX7_marks 26 = .ok (.goto 4, 3) := by decide +kernel
theorem dX7_marks_29 : decode cX7_marks 29 = .ok (.iconst 0, 1) := by decide +kernel
theorem dX7_marks_30 : decode cX7_marks 30 = .ok (.iadd, 1) := by decide +kernel
theorem dX7_marks_31 : decode cX7_marks 31 = .ok (.istore_n 1, 1) := by decide +kernel
theorem dX7_marks_32 : decode cX7_marks 32 = .ok (.iinc 2 1, 3) := by decide +kernel
theorem dX7_marks_35 : decode cX7_marks 35 = .ok (.goto (-31), 3) := by decide +kernel
theorem dX7_marks_38 : decode cX7_marks 38 = .ok (.iload_n 1, 1) := by decide +kernel
theorem dX7_marks_39 : decode cX7_marks 39 = .ok (.ireturn, 1) := by decide +kernel
set_option maxRecDepth 20000 in
theorem ggX7_firstError_X7_right : GoodIn wsX7_firstError wsX7_right := goodIn_r _ [6, 7, 8, 9, 10, 5, 11, 12, 13, 14, 15, 16, 17, 18, 19, 20, 21, 22, 23, 24] (by decide +kernel) (by decide +kernel)
set_option maxRecDepth 20000 in
theorem gX7_firstError_X7_right : GoodIn wsX7_firstError (wsV RX7 97 RX7 yX7_right wsX7_right) := goodIn_app (goodIn_of _ (by decide +kernel)) ggX7_firstError_X7_right
theorem dX7_firstError_0 : decode cX7_firstError 0 = .ok (.aload_n 0, 1) := by decide +kernel
theorem dX7_firstError_1 : decode cX7_firstError 1 = .ok (.iconst 0, 1) := by decide +kernel
theorem dX7_firstError_2 : decode cX7_firstError 2 = .ok (.putfield 29, 3) := by decide +kernel
theorem dX7_firstError_5 : decode cX7_firstError 5 = .ok (.aload_n 0, 1) := by decide +kernel
theorem dX7_firstError_6 : decode cX7_firstError 6 = .ok (.invokevirtual 97, 3) := by decide +kernel
theorem dX7_firstError_9 : decode cX7_firstError 9 = .ok (.ireturn, 1) := by decide +kernel
set_option maxRecDepth 20000 in
theorem ggX7_load_X7_right : GoodIn wsX7_load wsX7_right := goodIn_r _ [8, 1, 3, 9, 10, 7, 11, 12, 13, 14, 41, 42, 43, 44, 45, 46, 47, 48, 49, 50] (by decide +kernel) (by decide +kernel)
set_option maxRecDepth 20000 in
theorem gX7_load_X7_right : GoodIn wsX7_load (wsV RX7 97 RX7 yX7_right wsX7_right) := goodIn_app (goodIn_of _ (by decide +kernel)) ggX7_load_X7_right
set_option maxRecDepth 20000 in
theorem ggX7_load_X7_marks : GoodIn wsX7_load wsX7_marks := goodIn_r _ [18, 1, 3, 12, 13, 7, 14, 41, 42, 43, 44, 45, 46, 47, 48, 49, 50] (by decide +kernel) (by decide +kernel)
set_option maxRecDepth 20000 in
theorem gX7_load_X7_marks : GoodIn wsX7_load (wsV RX7 100 RX7 yX7_marks wsX7_marks) := goodIn_app (goodIn_of _ (by decide +kernel)) ggX7_load_X7_marks
set_option maxRecDepth 20000 in
theorem ggX7_load_X7_holds : GoodIn wsX7_load wsX7_holds := goodIn_r _ [22, 23, 41, 42, 43, 44, 45, 46, 47, 48, 49, 50] (by decide +kernel) (by decide +kernel)
set_option maxRecDepth 20000 in
theorem gX7_load_X7_holds : GoodIn wsX7_load (wsV RX7 59 RX7 yX7_holds wsX7_holds) := goodIn_app (goodIn_of _ (by decide +kernel)) ggX7_load_X7_holds
set_option maxRecDepth 20000 in
theorem ggX7_load_X7_save : GoodIn wsX7_load wsX7_save := goodIn_r _ [27, 28, 29, 2, 41, 42, 43, 44, 45, 46, 47, 48, 49, 50] (by decide +kernel) (by decide +kernel)
set_option maxRecDepth 20000 in
theorem gX7_load_X7_save : GoodIn wsX7_load (wsV RX7 62 RX7 yX7_save wsX7_save) := goodIn_app (goodIn_of _ (by decide +kernel)) ggX7_load_X7_save
set_option maxRecDepth 20000 in
theorem ggX7_load_X7_isMark : GoodIn wsX7_load wsX7_isMark := goodIn_r _ [14] (by decide +kernel) (by decide +kernel)
set_option maxRecDepth 20000 in
theorem gX7_load_X7_isMark : GoodIn wsX7_load (va_wsS RX7 94 yX7_isMark wsX7_isMark) := goodIn_app (goodIn_of _ (by decide +kernel)) ggX7_load_X7_isMark
set_option maxRecDepth 20000 in
theorem ggX7_load_X7_anew : GoodIn wsX7_load wsX7_anew := goodIn_r _ [33, 2, 34, 35, 36, 7, 37, 41, 42, 43, 44, 45, 46, 47, 48, 49, 50] (by decide +kernel) (by decide +kernel)
set_option maxRecDepth 20000 in
theorem gX7_load_X7_anew : GoodIn wsX7_load (wsV RX7 78 RX7 yX7_anew wsX7_anew) := goodIn_app (goodIn_of _ (by decide +kernel)) ggX7_load_X7_anew
set_option maxRecDepth 20000 in
theorem ggX7_load_X7_bits : GoodIn wsX7_load wsX7_bits := goodIn_r _ [40] (by decide +kernel) (by decide +kernel)
set_option maxRecDepth 20000 in
theorem gX7_load_X7_bits : GoodIn wsX7_load (va_wsS RX7 75 yX7_bits wsX7_bits) := goodIn_app (goodIn_of _ (by decide +kernel)) ggX7_load_X7_bits
theorem dX7_load_0 : decode cX7_load 0 = .ok (.aload_n 0, 1) := by decide +kernel
theorem dX7_load_1 : decode cX7_load 1 = .ok (.aload_n 0, 1) := by decide +kernel
theorem dX7_load_2 : decode cX7_load 2 = .ok (.invokevirtual 97, 3) := by decide +kernel
theorem dX7_load_5 : decode cX7_load 5 = .ok (.aload_n 0, 1) := by decide +kernel
theorem dX7_load_6 : decode cX7_load 6 = .ok (.getfield 91, 3) := by decide +kernel
theorem dX7_load_9 : decode cX7_load 9 = .ok (.if_icmp .ne 16, 3) := by decide +kernel
theorem dX7_load_12 : decode cX7_load 12 = .ok (.aload_n 0, 1) := by decide +kernel
theorem dX7_load_13 : decode cX7_load 13 = .ok (.invokevirtual 100, 3) := by decide +kernel
theorem dX7_load_16 : decode cX7_load 16 = .ok (.bipush 9, 2) := by decide +kernel
theorem dX7_load_18 : decode cX7_load 18 = .ok (.if_icmp .ne 7, 3) := by decide +kernel
theorem dX7_load_21 : decode cX7_load 21 = .ok (.iconst 0, 1) := by decide +kernel
theorem dX7_load_22 : decode cX7_load 22 = .ok (.goto 4, 3) := by decide +kernel
theorem dX7_load_25 : decode cX7_load 25 = .ok (.iconst 1, 1) := by decide +kernel
theorem dX7_load_26 : decode cX7_load 26 = .ok (.invokevirtual 59, 3) := by decide +kernel
theorem dX7_load_29 : decode cX7_load 29 = .ok (.ifCond .ne 5, 3) := by decide +kernel
theorem dX7_load_32 : decode cX7_load 32 = .ok (.iconst 0, 1) := by decide +kernel
theorem dX7_load_33 : decode cX7_load 33 = .ok (.ireturn, 1) := by decide +kernel
theorem dX7_load_34 : decode cX7_load 34 = .ok (.aload_n 0, 1) := by decide +kernel
theorem dX7_load_35 : decode cX7_load 35 = .ok (.invokevirtual 62, 3) := by decide +kernel
theorem dX7_load_38 : decode cX7_load 38 = .ok (.iconst 0, 1) := by decide +kernel
theorem dX7_load_39 : decode cX7_load 39 = .ok (.istore_n 1, 1) := by decide +kernel
theorem dX7_load_40 : decode cX7_load 40 = .ok (.iload_n 1, 1) := by decide +kernel
theorem dX7_load_41 : decode cX7_load 41 = .ok (.bipush 6, 2) := by decide +kernel
theorem dX7_load_43 : decode cX7_load 43 = .ok (.if_icmp .ge 19, 3) := by decide +kernel
theorem dX7_load_46 : decode cX7_load 46 = .ok (.aload_n 0, 1) := by decide +kernel
theorem dX7_load_47 : decode cX7_load 47 = .ok (.getfield 7, 3) := by decide +kernel
theorem dX7_load_50 : decode cX7_load 50 = .ok (.bipush 11, 2) := by decide +kernel
theorem dX7_load_52 : decode cX7_load 52 = .ok (.iload_n 1, 1) := by decide +kernel
theorem dX7_load_53 : decode cX7_load 53 = .ok (.iadd, 1) := by decide +kernel
theorem dX7_load_54 : decode cX7_load 54 = .ok (.iconst 0, 1) := by decide +kernel
theorem dX7_load_55 : decode cX7_load 55 = .ok (.iastore, 1) := by decide +kernel
theorem dX7_load_56 : decode cX7_load 56 = .ok (.iinc 1 1, 3) := by decide +kernel
theorem dX7_load_59 : decode cX7_load 59 = .ok (.goto (-19), 3) := by decide +kernel
theorem dX7_load_62 : decode cX7_load 62 = .ok (.iconst 0, 1) := by decide +kernel
theorem dX7_load_63 : decode cX7_load 63 = .ok (.istore_n 1, 1) := by decide +kernel
theorem dX7_load_64 : decode cX7_load 64 = .ok (.iconst 0, 1) := by decide +kernel
theorem dX7_load_65 : decode cX7_load 65 = .ok (.istore_n 2, 1) := by decide +kernel
theorem dX7_load_66 : decode cX7_load 66 = .ok (.iconst 0, 1) := by decide +kernel
theorem dX7_load_67 : decode cX7_load 67 = .ok (.istore_n 3, 1) := by decide +kernel
theorem dX7_load_68 : decode cX7_load 68 = .ok (.iload_n 3, 1) := by decide +kernel
theorem dX7_load_69 : decode cX7_load 69 = .ok (.aload_n 0, 1) := by decide +kernel
theorem dX7_load_70 : decode cX7_load 70 = .ok (.getfield 91, 3) := by decide +kernel
theorem dX7_load_73 : decode cX7_load 73 = .ok (.if_icmp .ge 66, 3) := by decide +kernel
theorem dX7_load_76 : decode cX7_load 76 = .ok (.aload_n 0, 1) := by decide +kernel
theorem dX7_load_77 : decode cX7_load 77 = .ok (.getfield 23, 3) := by decide +kernel
theorem dX7_load_80 : decode cX7_load 80 = .ok (.iload_n 3, 1) := by decide +kernel
theorem dX7_load_81 : decode cX7_load 81 = .ok (.iaload, 1) := by decide +kernel
theorem dX7_load_82 : decode cX7_load 82 = .ok (.invokestatic 94, 3) := by decide +kernel
theorem dX7_load_85 : decode cX7_load 85 = .ok (.ifCond .eq 30, 3) := by decide +kernel
theorem dX7_load_88 : decode cX7_load 88 = .ok (.iload_n 2, 1) := by decide +kernel
theorem dX7_load_89 : decode cX7_load 89 = .ok (.aload_n 0, 1) := by decide +kernel
theorem dX7_load_90 : decode cX7_load 90 = .ok (.getfield 23, 3) := by decide +kernel
theorem dX7_load_93 : decode cX7_load 93 = .ok (.iload_n 3, 1) := by decide +kernel
theorem dX7_load_94 : decode cX7_load 94 = .ok (.iaload, 1) := by decide +kernel
theorem dX7_load_95 : decode cX7_load 95 = .ok (.bipush 94, 2) := by decide +kernel
theorem dX7_load_97 : decode cX7_load 97 = .ok (.if_icmp .ne 9, 3) := by decide +kernel
theorem dX7_load_100 : decode cX7_load 100 = .ok (.iconst 1, 1) := by decide +kernel
theorem dX7_load_101 : decode cX7_load 101 = .ok (.iload_n 1, 1) := by decide +kernel
theorem dX7_load_102 : decode cX7_load 102 = .ok (.ishl, 1) := by decide +kernel
theorem dX7_load_103 : decode cX7_load 103 = .ok (.goto 4, 3) := by decide +kernel
theorem dX7_load_106 : decode cX7_load 106 = .ok (.iconst 0, 1) := by decide +kernel
theorem dX7_load_107 : decode cX7_load 107 = .ok (.ior, 1) := by decide +kernel
theorem dX7_load_108 : decode cX7_load 108 = .ok (.istore_n 2, 1) := by decide +kernel
theorem dX7_load_109 : decode cX7_load 109 = .ok (.iinc 1 1, 3) := by decide +kernel
theorem dX7_load_112 : decode cX7_load 112 = .ok (.goto 21, 3) := by decide +kernel
theorem dX7_load_115 : decode cX7_load 115 = .ok (.aload_n 0, 1) := by decide +kernel
theorem dX7_load_116 : decode cX7_load 116 = .ok (.getfield 7, 3) := by decide +kernel
theorem dX7_load_119 : decode cX7_load 119 = .ok (.bipush 11, 2) := by decide +kernel
theorem dX7_load_121 : decode cX7_load 121 = .ok (.aload_n 0, 1) := by decide +kernel
theorem dX7_load_122 : decode cX7_load 122 = .ok (.getfield 23, 3) := by decide +kernel
theorem dX7_load_125 : decode cX7_load 125 = .ok (.iload_n 3, 1) := by decide +kernel
theorem dX7_load_126 : decode cX7_load 126 = .ok (.iaload, 1) := by decide +kernel
theorem dX7_load_127 : decode cX7_load 127 = .ok (.iadd, 1) := by decide +kernel
theorem dX7_load_128 : decode cX7_load 128 = .ok (.bipush 97, 2) := by decide +kernel
theorem dX7_load_130 : decode cX7_load 130 = .ok (.isub, 1) := by decide +kernel
theorem dX7_load_131 : decode cX7_load 131 = .ok (.iload_n 1, 1) := by decide +kernel
theorem dX7_load_132 : decode cX7_load 132 = .ok (.iastore, 1) := by decide +kernel
theorem dX7_load_133 : decode cX7_load 133 = .ok (.iinc 3 1, 3) := by decide +kernel
theorem dX7_load_136 : decode cX7_load 136 = .ok (.goto (-68), 3) := by decide +kernel
theorem dX7_load_139 : decode cX7_load 139 = .ok (.aload_n 0, 1) := by decide +kernel
theorem dX7_load_140 : decode cX7_load 140 = .ok (.iload_n 2, 1) := by decide +kernel
theorem dX7_load_141 : decode cX7_load 141 = .ok (.invokevirtual 78, 3) := by decide +kernel
theorem dX7_load_144 : decode cX7_load 144 = .ok (.aload_n 0, 1) := by decide +kernel
theorem dX7_load_145 : decode cX7_load 145 = .ok (.iconst 0, 1) := by decide +kernel
theorem dX7_load_146 : decode cX7_load 146 = .ok (.putfield 91, 3) := by decide +kernel
theorem dX7_load_149 : decode cX7_load 149 = .ok (.iload_n 2, 1) := by decide +kernel
theorem dX7_load_150 : decode cX7_load 150 = .ok (.invokestatic 75, 3) := by decide +kernel
theorem dX7_load_153 : decode cX7_load 153 = .ok (.ireturn, 1) := by decide +kernel
set_option maxRecDepth 20000 in
theorem ggX7_keep_X7_in : GoodIn wsX7_keep wsX7_in := goodIn_r _ [7] (by decide +kernel) (by decide +kernel)
set_option maxRecDepth 20000 in
theorem gX7_keep_X7_in : GoodIn wsX7_keep (va_wsS RX7 33 yX7_in wsX7_in) := goodIn_app (goodIn_of _ (by decide +kernel)) ggX7_keep_X7_in
set_option maxRecDepth 20000 in
theorem ggX7_keep_X7_holds : GoodIn wsX7_keep wsX7_holds := goodIn_r _ [11, 12, 13, 14, 15, 16, 17, 18, 19, 20, 21, 22] (by decide +kernel) (by decide +kernel)
set_option maxRecDepth 20000 in
theorem gX7_keep_X7_holds : GoodIn wsX7_keep (wsV RX7 59 RX7 yX7_holds wsX7_holds) := goodIn_app (goodIn_of _ (by decide +kernel)) ggX7_keep_X7_holds
theorem dX7_keep_0 : decode cX7_keep 0 = .ok (.aload_n 0, 1) := by decide +kernel
theorem dX7_keep_1 : decode cX7_keep 1 = .ok (.iload_n 1, 1) := by decide +kernel
theorem dX7_keep_2 : decode cX7_keep 2 = .ok (.iconst 0, 1) := by decide +kernel
theorem dX7_keep_3 : decode cX7_keep 3 = .ok (.iconst 1, 1) := by decide +kernel
theorem dX7_keep_4 : decode cX7_keep 4 = .ok (.invokestatic 33, 3) := by decide +kernel
theorem dX7_keep_7 : decode cX7_keep 7 = .ok (.ifCond .eq 7, 3) := by decide +kernel
theorem dX7_keep_10 : decode cX7_keep 10 = .ok (.iconst 0, 1) := by decide +kernel
theorem dX7_keep_11 : decode cX7_keep 11 = .ok (.goto 4, 3) := by decide +kernel
theorem dX7_keep_14 : decode cX7_keep 14 = .ok (.iconst 1, 1) := by decide +kernel
theorem dX7_keep_15 : decode cX7_keep 15 = .ok (.invokevirtual 59, 3) := by decide +kernel
theorem dX7_keep_18 : decode cX7_keep 18 = .ok (.ifCond .ne 5, 3) := by decide +kernel
theorem dX7_keep_21 : decode cX7_keep 21 = .ok (.iconst 0, 1) := by decide +kernel
theorem dX7_keep_22 : decode cX7_keep 22 = .ok (.ireturn, 1) := by decide +kernel
theorem dX7_keep_23 : decode cX7_keep 23 = .ok (.iconst 0, 1) := by decide +kernel
theorem dX7_keep_24 : decode cX7_keep 24 = .ok (.istore_n 2, 1) := by decide +kernel
theorem dX7_keep_25 : decode cX7_keep 25 = .ok (.iload_n 2, 1) := by decide +kernel
theorem dX7_keep_26 : decode cX7_keep 26 = .ok (.bipush 58, 2) := by decide +kernel
theorem dX7_keep_28 : decode cX7_keep 28 = .ok (.if_icmp .ge 26, 3) := by decide +kernel
theorem dX7_keep_31 : decode cX7_keep 31 = .ok (.aload_n 0, 1) := by decide +kernel
theorem dX7_keep_32 : decode cX7_keep 32 = .ok (.getfield 13, 3) := by decide +kernel
theorem dX7_keep_35 : decode cX7_keep 35 = .ok (.bipush 58, 2) := by decide +kernel
theorem dX7_keep_37 : decode cX7_keep 37 = .ok (.iload_n 1, 1) := by decide +kernel
theorem dX7_keep_38 : decode cX7_keep 38 = .ok (.imul, 1) := by decide +kernel
theorem dX7_keep_39 : decode cX7_keep 39 = .ok (.iload_n 2, 1) := by decide +kernel
theorem dX7_keep_40 : decode cX7_keep 40 = .ok (.iadd, 1) := by decide +kernel
theorem dX7_keep_41 : decode cX7_keep 41 = .ok (.aload_n 0, 1) := by decide +kernel
theorem dX7_keep_42 : decode cX7_keep 42 = .ok (.getfield 7, 3) := by decide +kernel
theorem dX7_keep_45 : decode cX7_keep 45 = .ok (.iload_n 2, 1) := by decide +kernel
theorem dX7_keep_46 : decode cX7_keep 46 = .ok (.iaload, 1) := by decide +kernel
theorem dX7_keep_47 : decode cX7_keep 47 = .ok (.iastore, 1) := by decide +kernel
theorem dX7_keep_48 : decode cX7_keep 48 = .ok (.iinc 2 1, 3) := by decide +kernel
theorem dX7_keep_51 : decode cX7_keep 51 = .ok (.goto (-26), 3) := by decide +kernel
theorem dX7_keep_54 : decode cX7_keep 54 = .ok (.aload_n 0, 1) := by decide +kernel
theorem dX7_keep_55 : decode cX7_keep 55 = .ok (.getfield 16, 3) := by decide +kernel
theorem dX7_keep_58 : decode cX7_keep 58 = .ok (.iload_n 1, 1) := by decide +kernel
theorem dX7_keep_59 : decode cX7_keep 59 = .ok (.iconst 1, 1) := by decide +kernel
theorem dX7_keep_60 : decode cX7_keep 60 = .ok (.bastore, 1) := by decide +kernel
theorem dX7_keep_61 : decode cX7_keep 61 = .ok (.aload_n 0, 1) := by decide +kernel
theorem dX7_keep_62 : decode cX7_keep 62 = .ok (.getfield 7, 3) := by decide +kernel
theorem dX7_keep_65 : decode cX7_keep 65 = .ok (.bipush 17, 2) := by decide +kernel
theorem dX7_keep_67 : decode cX7_keep 67 = .ok (.iaload, 1) := by decide +kernel
theorem dX7_keep_68 : decode cX7_keep 68 = .ok (.ireturn, 1) := by decide +kernel
set_option maxRecDepth 20000 in
theorem ggX7_goBack_X7_in : GoodIn wsX7_goBack wsX7_in := goodIn_r _ [7] (by decide +kernel) (by decide +kernel)
set_option maxRecDepth 20000 in
theorem gX7_goBack_X7_in : GoodIn wsX7_goBack (va_wsS RX7 33 yX7_in wsX7_in) := goodIn_app (goodIn_of _ (by decide +kernel)) ggX7_goBack_X7_in
set_option maxRecDepth 20000 in
theorem ggX7_goBack_X7_holds : GoodIn wsX7_goBack wsX7_holds := goodIn_r _ [11, 12, 19, 20, 21, 22, 23, 24, 25, 26, 27, 28] (by decide +kernel) (by decide +kernel)
set_option maxRecDepth 20000 in
theorem gX7_goBack_X7_holds : GoodIn wsX7_goBack (wsV RX7 59 RX7 yX7_holds wsX7_holds) := goodIn_app (goodIn_of _ (by decide +kernel)) ggX7_goBack_X7_holds
set_option maxRecDepth 20000 in
theorem ggX7_goBack_X7_save : GoodIn wsX7_goBack wsX7_save := goodIn_r _ [16, 17, 18, 2, 19, 20, 21, 22, 23, 24, 25, 26, 27, 28] (by decide +kernel) (by decide +kernel)
set_option maxRecDepth 20000 in
theorem gX7_goBack_X7_save : GoodIn wsX7_goBack (wsV RX7 62 RX7 yX7_save wsX7_save) := goodIn_app (goodIn_of _ (by decide +kernel)) ggX7_goBack_X7_save
theorem dX7_goBack_0 : decode cX7_goBack 0 = .ok (.iload_n 1, 1) := by decide +kernel
theorem dX7_goBack_1 : decode cX7_goBack 1 = .ok (.iconst 0, 1) := by decide +kernel
theorem dX7_goBack_2 : decode cX7_goBack 2 = .ok (.iconst 1, 1) := by decide +kernel
theorem dX7_goBack_3 : decode cX7_goBack 3 = .ok (.invokestatic 33, 3) := by decide +kernel
theorem dX7_goBack_6 : decode cX7_goBack 6 = .ok (.istore_n 2, 1) := by decide +kernel
theorem dX7_goBack_7 : decode cX7_goBack 7 = .ok (.aload_n 0, 1) := by decide +kernel
theorem dX7_goBack_8 : decode cX7_goBack 8 = .ok (.iload_n 2, 1) := by decide +kernel
theorem dX7_goBack_9 : decode cX7_goBack 9 = .ok (.ifCond .ne 7, 3) := by decide +kernel
theorem dX7_goBack_12 : decode cX7_goBack 12 = .ok (.iconst 1, 1) := by decide +kernel
theorem dX7_goBack_13 : decode cX7_goBack 13 = .ok (.goto 17, 3) := by decide +kernel
theorem dX7_goBack_16 : decode cX7_goBack 16 = .ok (.aload_n 0, 1) := by decide +kernel
theorem dX7_goBack_17 : decode cX7_goBack 17 = .ok (.getfield 16, 3) := by decide +kernel
theorem dX7_goBack_20 : decode cX7_goBack 20 = .ok (.iload_n 1, 1) := by decide +kernel
theorem dX7_goBack_21 : decode cX7_goBack 21 = .ok (.baload, 1) := by decide +kernel
theorem dX7_goBack_22 : decode cX7_goBack 22 = .ok (.ifCond .ne 7, 3) := by decide +kernel
theorem dX7_goBack_25 : decode cX7_goBack 25 = .ok (.iconst 2, 1) := by decide +kernel
theorem dX7_goBack_26 : decode cX7_goBack 26 = .ok (.goto 4, 3) := by decide +kernel
theorem dX7_goBack_29 : decode cX7_goBack 29 = .ok (.iconst 0, 1) := by decide +kernel
theorem dX7_goBack_30 : decode cX7_goBack 30 = .ok (.invokevirtual 59, 3) := by decide +kernel
theorem dX7_goBack_33 : decode cX7_goBack 33 = .ok (.ifCond .ne 5, 3) := by decide +kernel
theorem dX7_goBack_36 : decode cX7_goBack 36 = .ok (.iconst 0, 1) := by decide +kernel
theorem dX7_goBack_37 : decode cX7_goBack 37 = .ok (.ireturn, 1) := by decide +kernel
theorem dX7_goBack_38 : decode cX7_goBack 38 = .ok (.aload_n 0, 1) := by decide +kernel
theorem dX7_goBack_39 : decode cX7_goBack 39 = .ok (.invokevirtual 62, 3) := by decide +kernel
theorem dX7_goBack_42 : decode cX7_goBack 42 = .ok (.iconst 0, 1) := by decide +kernel
theorem dX7_goBack_43 : decode cX7_goBack 43 = .ok (.istore_n 3, 1) := by decide +kernel
theorem dX7_goBack_44 : decode cX7_goBack 44 = .ok (.iload_n 3, 1) := by decide +kernel
theorem dX7_goBack_45 : decode cX7_goBack 45 = .ok (.bipush 58, 2) := by decide +kernel
theorem dX7_goBack_47 : decode cX7_goBack 47 = .ok (.if_icmp .ge 26, 3) := by decide +kernel
theorem dX7_goBack_50 : decode cX7_goBack 50 = .ok (.aload_n 0, 1) := by decide +kernel
theorem dX7_goBack_51 : decode cX7_goBack 51 = .ok (.getfield 7, 3) := by decide +kernel
theorem dX7_goBack_54 : decode cX7_goBack 54 = .ok (.iload_n 3, 1) := by decide +kernel
theorem dX7_goBack_55 : decode cX7_goBack 55 = .ok (.aload_n 0, 1) := by decide +kernel
theorem dX7_goBack_56 : decode cX7_goBack 56 = .ok (.getfield 13, 3) := by decide +kernel
theorem dX7_goBack_59 : decode cX7_goBack 59 = .ok (.bipush 58, 2) := by decide +kernel
theorem dX7_goBack_61 : decode cX7_goBack 61 = .ok (.iload_n 1, 1) := by decide +kernel
theorem dX7_goBack_62 : decode cX7_goBack 62 = .ok (.imul, 1) := by decide +kernel
theorem dX7_goBack_63 : decode cX7_goBack 63 = .ok (.iload_n 3, 1) := by decide +kernel
theorem dX7_goBack_64 : decode cX7_goBack 64 = .ok (.iadd, 1) := by decide +kernel
theorem dX7_goBack_65 : decode cX7_goBack 65 = .ok (.iaload, 1) := by decide +kernel
theorem dX7_goBack_66 : decode cX7_goBack 66 = .ok (.iastore, 1) := by decide +kernel
theorem dX7_goBack_67 : decode cX7_goBack 67 = .ok (.iinc 3 1, 3) := by decide +kernel
theorem dX7_goBack_70 : decode cX7_goBack 70 = .ok (.goto (-26), 3) := by decide +kernel
theorem dX7_goBack_73 : decode cX7_goBack 73 = .ok (.aload_n 0, 1) := by decide +kernel
theorem dX7_goBack_74 : decode cX7_goBack 74 = .ok (.getfield 7, 3) := by decide +kernel
theorem dX7_goBack_77 : decode cX7_goBack 77 = .ok (.bipush 17, 2) := by decide +kernel
theorem dX7_goBack_79 : decode cX7_goBack 79 = .ok (.iaload, 1) := by decide +kernel
theorem dX7_goBack_80 : decode cX7_goBack 80 = .ok (.ireturn, 1) := by decide +kernel
set_option maxRecDepth 20000 in
theorem ggX7_undo_X7_holds : GoodIn wsX7_undo wsX7_holds := goodIn_r _ [8, 9, 10, 11, 12, 13, 14, 15, 16, 17, 18, 19] (by decide +kernel) (by decide +kernel)
set_option maxRecDepth 20000 in
theorem gX7_undo_X7_holds : GoodIn wsX7_undo (wsV RX7 59 RX7 yX7_holds wsX7_holds) := goodIn_app (goodIn_of _ (by decide +kernel)) ggX7_undo_X7_holds
theorem dX7_undo_0 : decode cX7_undo 0 = .ok (.aload_n 0, 1) := by decide +kernel
theorem dX7_undo_1 : decode cX7_undo 1 = .ok (.aload_n 0, 1) := by decide +kernel
theorem dX7_undo_2 : decode cX7_undo 2 = .ok (.getfield 37, 3) := by decide +kernel
theorem dX7_undo_5 : decode cX7_undo 5 = .ok (.ifCond .le 7, 3) := by decide +kernel
theorem dX7_undo_8 : decode cX7_undo 8 = .ok (.iconst 0, 1) := by decide +kernel
theorem dX7_undo_9 : decode cX7_undo 9 = .ok (.goto 4, 3) := by decide +kernel
theorem dX7_undo_12 : decode cX7_undo 12 = .ok (.iconst 1, 1) := by decide +kernel
theorem dX7_undo_13 : decode cX7_undo 13 = .ok (.invokevirtual 59, 3) := by decide +kernel
theorem dX7_undo_16 : decode cX7_undo 16 = .ok (.ifCond .ne 5, 3) := by decide +kernel
theorem dX7_undo_19 : decode cX7_undo 19 = .ok (.iconst 0, 1) := by decide +kernel
theorem dX7_undo_20 : decode cX7_undo 20 = .ok (.ireturn, 1) := by decide +kernel
theorem dX7_undo_21 : decode cX7_undo 21 = .ok (.aload_n 0, 1) := by decide +kernel
theorem dX7_undo_22 : decode cX7_undo 22 = .ok (.dup, 1) := by decide +kernel
theorem dX7_undo_23 : decode cX7_undo 23 = .ok (.getfield 37, 3) := by decide +kernel
theorem dX7_undo_26 : decode cX7_undo 26 = .ok (.iconst 1, 1) := by decide +kernel
theorem dX7_undo_27 : decode cX7_undo 27 = .ok (.isub, 1) := by decide +kernel
theorem dX7_undo_28 : decode cX7_undo 28 = .ok (.putfield 37, 3) := by decide +kernel
theorem dX7_undo_31 : decode cX7_undo 31 = .ok (.iconst 0, 1) := by decide +kernel
theorem dX7_undo_32 : decode cX7_undo 32 = .ok (.istore_n 1, 1) := by decide +kernel
theorem dX7_undo_33 : decode cX7_undo 33 = .ok (.iload_n 1, 1) := by decide +kernel
theorem dX7_undo_34 : decode cX7_undo 34 = .ok (.bipush 58, 2) := by decide +kernel
theorem dX7_undo_36 : decode cX7_undo 36 = .ok (.if_icmp .ge 29, 3) := by decide +kernel
theorem dX7_undo_39 : decode cX7_undo 39 = .ok (.aload_n 0, 1) := by decide +kernel
theorem dX7_undo_40 : decode cX7_undo 40 = .ok (.getfield 7, 3) := by decide +kernel
theorem dX7_undo_43 : decode cX7_undo 43 = .ok (.iload_n 1, 1) := by decide +kernel
theorem dX7_undo_44 : decode cX7_undo 44 = .ok (.aload_n 0, 1) := by decide +kernel
theorem dX7_undo_45 : decode cX7_undo 45 = .ok (.getfield 20, 3) := by decide +kernel
theorem dX7_undo_48 : decode cX7_undo 48 = .ok (.bipush 58, 2) := by decide +kernel
theorem dX7_undo_50 : decode cX7_undo 50 = .ok (.aload_n 0, 1) := by decide +kernel
theorem dX7_undo_51 : decode cX7_undo 51 = .ok (.getfield 37, 3) := by decide +kernel
theorem dX7_undo_54 : decode cX7_undo 54 = .ok (.imul, 1) := by decide +kernel
theorem dX7_undo_55 : decode cX7_undo 55 = .ok (.iload_n 1, 1) := by decide +kernel
theorem dX7_undo_56 : decode cX7_undo 56 = .ok (.iadd, 1) := by decide +kernel
theorem dX7_undo_57 : decode cX7_undo 57 = .ok (.iaload, 1) := by decide +kernel
theorem dX7_undo_58 : decode cX7_undo 58 = .ok (.iastore, 1) := by decide +kernel
theorem dX7_undo_59 : decode cX7_undo 59 = .ok (.iinc 1 1, 3) := by decide +kernel
theorem dX7_undo_62 : decode cX7_undo 62 = .ok (.goto (-29), 3) := by decide +kernel
theorem dX7_undo_65 : decode cX7_undo 65 = .ok (.aload_n 0, 1) := by decide +kernel
theorem dX7_undo_66 : decode cX7_undo 66 = .ok (.getfield 37, 3) := by decide +kernel
theorem dX7_undo_69 : decode cX7_undo 69 = .ok (.ireturn, 1) := by decide +kernel
set_option maxRecDepth 20000 in
theorem ggX7_ofPanel_X7_lay : GoodIn wsX7_ofPanel wsX7_lay := goodIn_r _ [7, 2, 8, 9, 10, 11, 12, 13, 14, 15, 16, 17] (by decide +kernel) (by decide +kernel)
set_option maxRecDepth 20000 in
theorem gX7_ofPanel_X7_lay : GoodIn wsX7_ofPanel (wsV RX7 40 RX7 yX7_lay wsX7_lay) := goodIn_app (goodIn_of _ (by decide +kernel)) ggX7_ofPanel_X7_lay
theorem dX7_ofPanel_0 : decode cX7_ofPanel 0 = .ok (.aload_n 0, 1) := by decide +kernel
theorem dX7_ofPanel_1 : decode cX7_ofPanel 1 = .ok (.aload_n 0, 1) := by decide +kernel
theorem dX7_ofPanel_2 : decode cX7_ofPanel 2 = .ok (.getfield 7, 3) := by decide +kernel
theorem dX7_ofPanel_5 : decode cX7_ofPanel 5 = .ok (.iconst 0, 1) := by decide +kernel
theorem dX7_ofPanel_6 : decode cX7_ofPanel 6 = .ok (.iaload, 1) := by decide +kernel
theorem dX7_ofPanel_7 : decode cX7_ofPanel 7 = .ok (.invokevirtual 40, 3) := by decide +kernel
theorem dX7_ofPanel_10 : decode cX7_ofPanel 10 = .ok (.iconst 0, 1) := by decide +kernel
theorem dX7_ofPanel_11 : decode cX7_ofPanel 11 = .ok (.istore_n 3, 1) := by decide +kernel
theorem dX7_ofPanel_12 : decode cX7_ofPanel 12 = .ok (.iconst 0, 1) := by decide +kernel
theorem dX7_ofPanel_13 : decode cX7_ofPanel 13 = .ok (.istore 4, 2) := by decide +kernel
theorem dX7_ofPanel_15 : decode cX7_ofPanel 15 = .ok (.iconst 0, 1) := by decide +kernel
theorem dX7_ofPanel_16 : decode cX7_ofPanel 16 = .ok (.istore 5, 2) := by decide +kernel
theorem dX7_ofPanel_18 : decode cX7_ofPanel 18 = .ok (.iload 5, 2) := by decide +kernel
theorem dX7_ofPanel_20 : decode cX7_ofPanel 20 = .ok (.bipush 6, 2) := by decide +kernel
theorem dX7_ofPanel_22 : decode cX7_ofPanel 22 = .ok (.if_icmp .ge 34, 3) := by decide +kernel
theorem dX7_ofPanel_25 : decode cX7_ofPanel 25 = .ok (.iload_n 3, 1) := by decide +kernel
theorem dX7_ofPanel_26 : decode cX7_ofPanel 26 = .ok (.aload_n 0, 1) := by decide +kernel
theorem dX7_ofPanel_27 : decode cX7_ofPanel 27 = .ok (.getfield 7, 3) := by decide +kernel
theorem dX7_ofPanel_30 : decode cX7_ofPanel 30 = .ok (.bipush 11, 2) := by decide +kernel
theorem dX7_ofPanel_32 : decode cX7_ofPanel 32 = .ok (.iload 5, 2) := by decide +kernel
theorem dX7_ofPanel_34 : decode cX7_ofPanel 34 = .ok (.iadd, 1) := by decide +kernel
theorem dX7_ofPanel_35 : decode cX7_ofPanel 35 = .ok (.iaload, 1) := by decide +kernel
theorem dX7_ofPanel_36 : decode cX7_ofPanel 36 = .ok (.iload_n 1, 1) := by decide +kernel
theorem dX7_ofPanel_37 : decode cX7_ofPanel 37 = .ok (.if_icmp .ne 10, 3) := by decide +kernel
theorem dX7_ofPanel_40 : decode cX7_ofPanel 40 = .ok (.iconst 1, 1) := by decide +kernel
theorem dX7_ofPanel_41 : decode cX7_ofPanel 41 = .ok (.iload 5, 2) := by decide +kernel
theorem dX7_ofPanel_43 : decode cX7_ofPanel 43 = .ok (.ishl, 1) := by decide +kernel
theorem dX7_ofPanel_44 : decode cX7_ofPanel 44 = .ok (.goto 4, 3) := by decide +kernel
theorem dX7_ofPanel_47 : decode cX7_ofPanel 47 = .ok (.iconst 0, 1) := by decide +kernel
theorem dX7_ofPanel_48 : decode cX7_ofPanel 48 = .ok (.ior, 1) := by decide +kernel
theorem dX7_ofPanel_49 : decode cX7_ofPanel 49 = .ok (.istore_n 3, 1) := by decide +kernel
theorem dX7_ofPanel_50 : decode cX7_ofPanel 50 = .ok (.iinc 5 1, 3) := by decide +kernel
theorem dX7_ofPanel_53 : decode cX7_ofPanel 53 = .ok (.goto (-35), 3) := by decide +kernel
theorem dX7_ofPanel_56 : decode cX7_ofPanel 56 = .ok (.iconst 0, 1) := by decide +kernel
theorem dX7_ofPanel_57 : decode cX7_ofPanel 57 = .ok (.istore 5, 2) := by decide +kernel
theorem dX7_ofPanel_59 : decode cX7_ofPanel 59 = .ok (.iload 5, 2) := by decide +kernel
theorem dX7_ofPanel_61 : decode cX7_ofPanel 61 = .ok (.bipush 10, 2) := by decide +kernel
theorem dX7_ofPanel_63 : decode cX7_ofPanel 63 = .ok (.if_icmp .ge 35, 3) := by decide +kernel
theorem dX7_ofPanel_66 : decode cX7_ofPanel 66 = .ok (.iload 4, 2) := by decide +kernel
theorem dX7_ofPanel_68 : decode cX7_ofPanel 68 = .ok (.aload_n 0, 1) := by decide +kernel
theorem dX7_ofPanel_69 : decode cX7_ofPanel 69 = .ok (.getfield 26, 3) := by decide +kernel
theorem dX7_ofPanel_72 : decode cX7_ofPanel 72 = .ok (.iload 5, 2) := by decide +kernel
theorem dX7_ofPanel_74 : decode cX7_ofPanel 74 = .ok (.iaload, 1) := by decide +kernel
theorem dX7_ofPanel_75 : decode cX7_ofPanel 75 = .ok (.aload_n 0, 1) := by decide +kernel
theorem dX7_ofPanel_76 : decode cX7_ofPanel 76 = .ok (.getfield 26, 3) := by decide +kernel
theorem dX7_ofPanel_79 : decode cX7_ofPanel 79 = .ok (.iload_n 1, 1) := by decide +kernel
theorem dX7_ofPanel_80 : decode cX7_ofPanel 80 = .ok (.iaload, 1) := by decide +kernel
theorem dX7_ofPanel_81 : decode cX7_ofPanel 81 = .ok (.if_icmp .ne 7, 3) := by decide +kernel
theorem dX7_ofPanel_84 : decode cX7_ofPanel 84 = .ok (.iconst 1, 1) := by decide +kernel
theorem dX7_ofPanel_85 : decode cX7_ofPanel 85 = .ok (.goto 4, 3) := by decide +kernel
theorem dX7_ofPanel_88 : decode cX7_ofPanel 88 = .ok (.iconst 0, 1) := by decide +kernel
theorem dX7_ofPanel_89 : decode cX7_ofPanel 89 = .ok (.iadd, 1) := by decide +kernel
theorem dX7_ofPanel_90 : decode cX7_ofPanel 90 = .ok (.istore 4, 2) := by decide +kernel
theorem dX7_ofPanel_92 : decode cX7_ofPanel 92 = .ok (.iinc 5 1, 3) := by decide +kernel
theorem dX7_ofPanel_95 : decode cX7_ofPanel 95 = .ok (.goto (-36), 3) := by decide +kernel
theorem dX7_ofPanel_98 : decode cX7_ofPanel 98 = .ok (.iload_n 2, 1) := by decide +kernel
theorem dX7_ofPanel_99 : decode cX7_ofPanel 99 = .ok (.ifCond .ne 15, 3) := by decide +kernel
theorem dX7_ofPanel_102 : decode cX7_ofPanel 102 = .ok (.bipush 100, 2) := by decide +kernel
theorem dX7_ofPanel_104 : decode cX7_ofPanel 104 = .ok (.aload_n 0, 1) := by decide +kernel
theorem dX7_ofPanel_105 : decode cX7_ofPanel 105 = .ok (.getfield 26, 3) := by decide +kernel
theorem dX7_ofPanel_108 : decode cX7_ofPanel 108 = .ok (.iload_n 1, 1) := by decide +kernel
theorem dX7_ofPanel_109 : decode cX7_ofPanel 109 = .ok (.iaload, 1) := by decide +kernel
theorem dX7_ofPanel_110 : decode cX7_ofPanel 110 = .ok (.iadd, 1) := by decide +kernel
theorem dX7_ofPanel_111 : decode cX7_ofPanel 111 = .ok (.goto 14, 3) := by decide +kernel
theorem dX7_ofPanel_114 : decode cX7_ofPanel 114 = .ok (.iload_n 2, 1) := by decide +kernel
theorem dX7_ofPanel_115 : decode cX7_ofPanel 115 = .ok (.iconst 1, 1) := by decide +kernel
theorem dX7_ofPanel_116 : decode cX7_ofPanel 116 = .ok (.if_icmp .ne 7, 3) := by decide +kernel
theorem dX7_ofPanel_119 : decode cX7_ofPanel 119 = .ok (.iload_n 3, 1) := by decide +kernel
theorem dX7_ofPanel_120 : decode cX7_ofPanel 120 = .ok (.goto 5, 3) := by decide +kernel
theorem dX7_ofPanel_123 : decode cX7_ofPanel 123 = .ok (.iload 4, 2) := by decide +kernel
theorem dX7_ofPanel_125 : decode cX7_ofPanel 125 = .ok (.ireturn, 1) := by decide +kernel
set_option maxRecDepth 20000 in
theorem ggX7_panelOf_X7_isPanel : GoodIn wsX7_panelOf wsX7_isPanel := goodIn_r _ [4, 5, 6, 3, 7] (by decide +kernel) (by decide +kernel)
set_option maxRecDepth 20000 in
theorem gX7_panelOf_X7_isPanel : GoodIn wsX7_panelOf (va_wsS RX7 72 yX7_isPanel wsX7_isPanel) := goodIn_app (goodIn_of _ (by decide +kernel)) ggX7_panelOf_X7_isPanel
set_option maxRecDepth 20000 in
theorem ggX7_panelOf_X7_in : GoodIn wsX7_panelOf wsX7_in := goodIn_r _ [7] (by decide +kernel) (by decide +kernel)
set_option maxRecDepth 20000 in
theorem gX7_panelOf_X7_in : GoodIn wsX7_panelOf (va_wsS RX7 33 yX7_in wsX7_in) := goodIn_app (goodIn_of _ (by decide +kernel)) ggX7_panelOf_X7_in
set_option maxRecDepth 20000 in
theorem ggX7_panelOf_X7_holds : GoodIn wsX7_panelOf wsX7_holds := goodIn_r _ [11, 12, 23, 24, 25, 26, 27, 28, 29, 30, 31, 32] (by decide +kernel) (by decide +kernel)
set_option maxRecDepth 20000 in
theorem gX7_panelOf_X7_holds : GoodIn wsX7_panelOf (wsV RX7 59 RX7 yX7_holds wsX7_holds) := goodIn_app (goodIn_of _ (by decide +kernel)) ggX7_panelOf_X7_holds
set_option maxRecDepth 20000 in
theorem ggX7_panelOf_X7_ofPanel : GoodIn wsX7_panelOf wsX7_ofPanel := goodIn_r _ [16, 17, 18, 19, 20, 21, 3, 22, 23, 24, 25, 26, 27, 28, 29, 30, 31, 32] (by decide +kernel) (by decide +kernel)
set_option maxRecDepth 20000 in
theorem gX7_panelOf_X7_ofPanel : GoodIn wsX7_panelOf (wsV RX7 103 RX7 yX7_ofPanel wsX7_ofPanel) := goodIn_app (goodIn_of _ (by decide +kernel)) ggX7_panelOf_X7_ofPanel
theorem dX7_panelOf_0 : decode cX7_panelOf 0 = .ok (.aload_n 0, 1) := by decide +kernel
theorem dX7_panelOf_1 : decode cX7_panelOf 1 = .ok (.iload_n 1, 1) := by decide +kernel
theorem dX7_panelOf_2 : decode cX7_panelOf 2 = .ok (.invokestatic 72, 3) := by decide +kernel
theorem dX7_panelOf_5 : decode cX7_panelOf 5 = .ok (.ifCond .ne 7, 3) := by decide +kernel
theorem dX7_panelOf_8 : decode cX7_panelOf 8 = .ok (.iconst 1, 1) := by decide +kernel
theorem dX7_panelOf_9 : decode cX7_panelOf 9 = .ok (.goto 17, 3) := by decide +kernel
theorem dX7_panelOf_12 : decode cX7_panelOf 12 = .ok (.iload_n 2, 1) := by decide +kernel
theorem dX7_panelOf_13 : decode cX7_panelOf 13 = .ok (.iconst 0, 1) := by decide +kernel
theorem dX7_panelOf_14 : decode cX7_panelOf 14 = .ok (.iconst 2, 1) := by decide +kernel
theorem dX7_panelOf_15 : decode cX7_panelOf 15 = .ok (.invokestatic 33, 3) := by decide +kernel
theorem dX7_panelOf_18 : decode cX7_panelOf 18 = .ok (.ifCond .ne 7, 3) := by decide +kernel
theorem dX7_panelOf_21 : decode cX7_panelOf 21 = .ok (.iconst 2, 1) := by decide +kernel
theorem dX7_panelOf_22 : decode cX7_panelOf 22 = .ok (.goto 4, 3) := by decide +kernel
theorem dX7_panelOf_25 : decode cX7_panelOf 25 = .ok (.iconst 0, 1) := by decide +kernel
theorem dX7_panelOf_26 : decode cX7_panelOf 26 = .ok (.invokevirtual 59, 3) := by decide +kernel
theorem dX7_panelOf_29 : decode cX7_panelOf 29 = .ok (.ifCond .eq 12, 3) := by decide +kernel
theorem dX7_panelOf_32 : decode cX7_panelOf 32 = .ok (.aload_n 0, 1) := by decide +kernel
theorem dX7_panelOf_33 : decode cX7_panelOf 33 = .ok (.iload_n 1, 1) := by decide +kernel
theorem dX7_panelOf_34 : decode cX7_panelOf 34 = .ok (.iload_n 2, 1) := by decide +kernel
theorem dX7_panelOf_35 : decode cX7_panelOf 35 = .ok (.invokevirtual 103, 3) := by decide +kernel
theorem dX7_panelOf_38 : decode cX7_panelOf 38 = .ok (.goto 4, 3) := by decide +kernel
theorem dX7_panelOf_41 : decode cX7_panelOf 41 = .ok (.iconst 0, 1) := by decide +kernel
theorem dX7_panelOf_42 : decode cX7_panelOf 42 = .ok (.ireturn, 1) := by decide +kernel
set_option maxRecDepth 20000 in
theorem ggX7_sure_X7_fits : GoodIn wsX7_sure wsX7_fits := goodIn_r _ [5, 6, 7, 8, 9, 10, 4, 11, 12, 13, 14, 15, 16, 17, 18, 19, 20, 21, 22, 23, 24, 25] (by decide +kernel) (by decide +kernel)
set_option maxRecDepth 20000 in
theorem gX7_sure_X7_fits : GoodIn wsX7_sure (wsV RX7 48 RX7 yX7_fits wsX7_fits) := goodIn_app (goodIn_of _ (by decide +kernel)) ggX7_sure_X7_fits
theorem dX7_sure_0 : decode cX7_sure 0 = .ok (.iconst 0, 1) := by decide +kernel
theorem dX7_sure_1 : decode cX7_sure 1 = .ok (.istore_n 2, 1) := by decide +kernel
theorem dX7_sure_2 : decode cX7_sure 2 = .ok (.iconst 0, 1) := by decide +kernel
theorem dX7_sure_3 : decode cX7_sure 3 = .ok (.istore_n 3, 1) := by decide +kernel
theorem dX7_sure_4 : decode cX7_sure 4 = .ok (.iconst 0, 1) := by decide +kernel
theorem dX7_sure_5 : decode cX7_sure 5 = .ok (.istore 4, 2) := by decide +kernel
theorem dX7_sure_7 : decode cX7_sure 7 = .ok (.iload 4, 2) := by decide +kernel
theorem dX7_sure_9 : decode cX7_sure 9 = .ok (.sipush 512, 3) := by decide +kernel
theorem dX7_sure_12 : decode cX7_sure 12 = .ok (.if_icmp .ge 30, 3) := by decide +kernel
theorem dX7_sure_15 : decode cX7_sure 15 = .ok (.aload_n 0, 1) := by decide +kernel
theorem dX7_sure_16 : decode cX7_sure 16 = .ok (.iload 4, 2) := by decide +kernel
theorem dX7_sure_18 : decode cX7_sure 18 = .ok (.invokevirtual 48, 3) := by decide +kernel
theorem dX7_sure_21 : decode cX7_sure 21 = .ok (.ifCond .eq 15, 3) := by decide +kernel
theorem dX7_sure_24 : decode cX7_sure 24 = .ok (.iinc 2 1, 3) := by decide +kernel
theorem dX7_sure_27 : decode cX7_sure 27 = .ok (.iload_n 3, 1) := by decide +kernel
theorem dX7_sure_28 : decode cX7_sure 28 = .ok (.iload 4, 2) := by decide +kernel
theorem dX7_sure_30 : decode cX7_sure 30 = .ok (.iload_n 1, 1) := by decide +kernel
theorem dX7_sure_31 : decode cX7_sure 31 = .ok (.ishr, 1) := by decide +kernel
theorem dX7_sure_32 : decode cX7_sure 32 = .ok (.iconst 1, 1) := by decide +kernel
theorem dX7_sure_33 : decode cX7_sure 33 = .ok (.iand, 1) := by decide +kernel
theorem dX7_sure_34 : decode cX7_sure 34 = .ok (.iadd, 1) := by decide +kernel
theorem dX7_sure_35 : decode cX7_sure 35 = .ok (.istore_n 3, 1) := by decide +kernel
theorem dX7_sure_36 : decode cX7_sure 36 = .ok (.iinc 4 1, 3) := by decide +kernel
theorem dX7_sure_39 : decode cX7_sure 39 = .ok (.goto (-32), 3) := by decide +kernel
theorem dX7_sure_42 : decode cX7_sure 42 = .ok (.iload_n 3, 1) := by decide +kernel
theorem dX7_sure_43 : decode cX7_sure 43 = .ok (.ifCond .ne 7, 3) := by decide +kernel
theorem dX7_sure_46 : decode cX7_sure 46 = .ok (.iconst 0, 1) := by decide +kernel
theorem dX7_sure_47 : decode cX7_sure 47 = .ok (.goto 13, 3) := by decide +kernel
theorem dX7_sure_50 : decode cX7_sure 50 = .ok (.iload_n 3, 1) := by decide +kernel
theorem dX7_sure_51 : decode cX7_sure 51 = .ok (.iload_n 2, 1) := by decide +kernel
theorem dX7_sure_52 : decode cX7_sure 52 = .ok (.if_icmp .ne 7, 3) := by decide +kernel
theorem dX7_sure_55 : decode cX7_sure 55 = .ok (.iconst 1, 1) := by decide +kernel
theorem dX7_sure_56 : decode cX7_sure 56 = .ok (.goto 4, 3) := by decide +kernel
theorem dX7_sure_59 : decode cX7_sure 59 = .ok (.iconst (-1), 1) := by decide +kernel
theorem dX7_sure_60 : decode cX7_sure 60 = .ok (.ireturn, 1) := by decide +kernel
set_option maxRecDepth 20000 in
theorem ggX7_ofCrease_X7_sure : GoodIn wsX7_ofCrease wsX7_sure := goodIn_r _ [6, 7, 8, 9, 5, 10, 1, 11, 12, 13, 14, 15, 16, 17, 18, 19, 20, 21, 22, 23, 24, 25, 26, 27, 28, 29] (by decide +kernel) (by decide +kernel)
set_option maxRecDepth 20000 in
theorem gX7_ofCrease_X7_sure : GoodIn wsX7_ofCrease (wsV RX7 106 RX7 yX7_sure wsX7_sure) := goodIn_app (goodIn_of _ (by decide +kernel)) ggX7_ofCrease_X7_sure
theorem dX7_ofCrease_0 : decode cX7_ofCrease 0 = .ok (.iload_n 2, 1) := by decide +kernel
theorem dX7_ofCrease_1 : decode cX7_ofCrease 1 = .ok (.ifCond .ne 16, 3) := by decide +kernel
theorem dX7_ofCrease_4 : decode cX7_ofCrease 4 = .ok (.aload_n 0, 1) := by decide +kernel
theorem dX7_ofCrease_5 : decode cX7_ofCrease 5 = .ok (.getfield 7, 3) := by decide +kernel
theorem dX7_ofCrease_8 : decode cX7_ofCrease 8 = .ok (.iconst 0, 1) := by decide +kernel
theorem dX7_ofCrease_9 : decode cX7_ofCrease 9 = .ok (.iaload, 1) := by decide +kernel
theorem dX7_ofCrease_10 : decode cX7_ofCrease 10 = .ok (.iload_n 1, 1) := by decide +kernel
theorem dX7_ofCrease_11 : decode cX7_ofCrease 11 = .ok (.ishr, 1) := by decide +kernel
theorem dX7_ofCrease_12 : decode cX7_ofCrease 12 = .ok (.iconst 1, 1) := by decide +kernel
theorem dX7_ofCrease_13 : decode cX7_ofCrease 13 = .ok (.iand, 1) := by decide +kernel
theorem dX7_ofCrease_14 : decode cX7_ofCrease 14 = .ok (.goto 42, 3) := by decide +kernel
theorem dX7_ofCrease_17 : decode cX7_ofCrease 17 = .ok (.iload_n 2, 1) := by decide +kernel
theorem dX7_ofCrease_18 : decode cX7_ofCrease 18 = .ok (.iconst 1, 1) := by decide +kernel
theorem dX7_ofCrease_19 : decode cX7_ofCrease 19 = .ok (.if_icmp .ne 14, 3) := by decide +kernel
theorem dX7_ofCrease_22 : decode cX7_ofCrease 22 = .ok (.aload_n 0, 1) := by decide +kernel
theorem dX7_ofCrease_23 : decode cX7_ofCrease 23 = .ok (.getfield 7, 3) := by decide +kernel
theorem dX7_ofCrease_26 : decode cX7_ofCrease 26 = .ok (.iconst 2, 1) := by decide +kernel
theorem dX7_ofCrease_27 : decode cX7_ofCrease 27 = .ok (.iload_n 1, 1) := by decide +kernel
theorem dX7_ofCrease_28 : decode cX7_ofCrease 28 = .ok (.iadd, 1) := by decide +kernel
theorem dX7_ofCrease_29 : decode cX7_ofCrease 29 = .ok (.iaload, 1) := by decide +kernel
theorem dX7_ofCrease_30 : decode cX7_ofCrease 30 = .ok (.goto 26, 3) := by decide +kernel
theorem dX7_ofCrease_33 : decode cX7_ofCrease 33 = .ok (.iload_n 2, 1) := by decide +kernel
theorem dX7_ofCrease_34 : decode cX7_ofCrease 34 = .ok (.iconst 2, 1) := by decide +kernel
theorem dX7_ofCrease_35 : decode cX7_ofCrease 35 = .ok (.if_icmp .ne 16, 3) := by decide +kernel
theorem dX7_ofCrease_38 : decode cX7_ofCrease 38 = .ok (.aload_n 0, 1) := by decide +kernel
theorem dX7_ofCrease_39 : decode cX7_ofCrease 39 = .ok (.getfield 7, 3) := by decide +kernel
theorem dX7_ofCrease_42 : decode cX7_ofCrease 42 = .ok (.iconst 1, 1) := by decide +kernel
theorem dX7_ofCrease_43 : decode cX7_ofCrease 43 = .ok (.iaload, 1) := by decide +kernel
theorem dX7_ofCrease_44 : decode cX7_ofCrease 44 = .ok (.iload_n 1, 1) := by decide +kernel
theorem dX7_ofCrease_45 : decode cX7_ofCrease 45 = .ok (.ishr, 1) := by decide +kernel
theorem dX7_ofCrease_46 : decode cX7_ofCrease 46 = .ok (.iconst 1, 1) := by decide +kernel
theorem dX7_ofCrease_47 : decode cX7_ofCrease 47 = .ok (.iand, 1) := by decide +kernel
theorem dX7_ofCrease_48 : decode cX7_ofCrease 48 = .ok (.goto 8, 3) := by decide +kernel
theorem dX7_ofCrease_51 : decode cX7_ofCrease 51 = .ok (.aload_n 0, 1) := by decide +kernel
theorem dX7_ofCrease_52 : decode cX7_ofCrease 52 = .ok (.iload_n 1, 1) := by decide +kernel
theorem dX7_ofCrease_53 : decode cX7_ofCrease 53 = .ok (.invokevirtual 106, 3) := by decide +kernel
theorem dX7_ofCrease_56 : decode cX7_ofCrease 56 = .ok (.ireturn, 1) := by decide +kernel
set_option maxRecDepth 20000 in
theorem ggX7_creaseOf_X7_isCrease : GoodIn wsX7_creaseOf wsX7_isCrease := goodIn_r _ [4, 5, 6, 3, 7] (by decide +kernel) (by decide +kernel)
set_option maxRecDepth 20000 in
theorem gX7_creaseOf_X7_isCrease : GoodIn wsX7_creaseOf (va_wsS RX7 56 yX7_isCrease wsX7_isCrease) := goodIn_app (goodIn_of _ (by decide +kernel)) ggX7_creaseOf_X7_isCrease
set_option maxRecDepth 20000 in
theorem ggX7_creaseOf_X7_in : GoodIn wsX7_creaseOf wsX7_in := goodIn_r _ [7] (by decide +kernel) (by decide +kernel)
set_option maxRecDepth 20000 in
theorem gX7_creaseOf_X7_in : GoodIn wsX7_creaseOf (va_wsS RX7 33 yX7_in wsX7_in) := goodIn_app (goodIn_of _ (by decide +kernel)) ggX7_creaseOf_X7_in
set_option maxRecDepth 20000 in
theorem ggX7_creaseOf_X7_holds : GoodIn wsX7_creaseOf wsX7_holds := goodIn_r _ [11, 12, 35, 36, 37, 38, 39, 40, 41, 42, 43, 44] (by decide +kernel) (by decide +kernel)
set_option maxRecDepth 20000 in
theorem gX7_creaseOf_X7_holds : GoodIn wsX7_creaseOf (wsV RX7 59 RX7 yX7_holds wsX7_holds) := goodIn_app (goodIn_of _ (by decide +kernel)) ggX7_creaseOf_X7_holds
set_option maxRecDepth 20000 in
theorem ggX7_creaseOf_X7_ofCrease : GoodIn wsX7_creaseOf wsX7_ofCrease := goodIn_r _ [16, 17, 18, 19, 20, 3, 21, 22, 23, 24, 25, 26, 27, 28, 29, 30, 31, 32, 33, 34, 35, 36, 37, 38, 39, 40, 41, 42, 43, 44] (by decide +kernel) (by decide +kernel)
set_option maxRecDepth 20000 in
theorem gX7_creaseOf_X7_ofCrease : GoodIn wsX7_creaseOf (wsV RX7 109 RX7 yX7_ofCrease wsX7_ofCrease) := goodIn_app (goodIn_of _ (by decide +kernel)) ggX7_creaseOf_X7_ofCrease
theorem dX7_creaseOf_0 : decode cX7_creaseOf 0 = .ok (.aload_n 0, 1) := by decide +kernel
theorem dX7_creaseOf_1 : decode cX7_creaseOf 1 = .ok (.iload_n 1, 1) := by decide +kernel
theorem dX7_creaseOf_2 : decode cX7_creaseOf 2 = .ok (.invokestatic 56, 3) := by decide +kernel
theorem dX7_creaseOf_5 : decode cX7_creaseOf 5 = .ok (.ifCond .ne 7, 3) := by decide +kernel
theorem dX7_creaseOf_8 : decode cX7_creaseOf 8 = .ok (.iconst 1, 1) := by decide +kernel
theorem dX7_creaseOf_9 : decode cX7_creaseOf 9 = .ok (.goto 17, 3) := by decide +kernel
theorem dX7_creaseOf_12 : decode cX7_creaseOf 12 = .ok (.iload_n 2, 1) := by decide +kernel
theorem dX7_creaseOf_13 : decode cX7_creaseOf 13 = .ok (.iconst 0, 1) := by decide +kernel
theorem dX7_creaseOf_14 : decode cX7_creaseOf 14 = .ok (.iconst 3, 1) := by decide +kernel
theorem dX7_creaseOf_15 : decode cX7_creaseOf 15 = .ok (.invokestatic 33, 3) := by decide +kernel
theorem dX7_creaseOf_18 : decode cX7_creaseOf 18 = .ok (.ifCond .ne 7, 3) := by decide +kernel
theorem dX7_creaseOf_21 : decode cX7_creaseOf 21 = .ok (.iconst 2, 1) := by decide +kernel
theorem dX7_creaseOf_22 : decode cX7_creaseOf 22 = .ok (.goto 4, 3) := by decide +kernel
theorem dX7_creaseOf_25 : decode cX7_creaseOf 25 = .ok (.iconst 0, 1) := by decide +kernel
theorem dX7_creaseOf_26 : decode cX7_creaseOf 26 = .ok (.invokevirtual 59, 3) := by decide +kernel
theorem dX7_creaseOf_29 : decode cX7_creaseOf 29 = .ok (.ifCond .eq 12, 3) := by decide +kernel
theorem dX7_creaseOf_32 : decode cX7_creaseOf 32 = .ok (.aload_n 0, 1) := by decide +kernel
theorem dX7_creaseOf_33 : decode cX7_creaseOf 33 = .ok (.iload_n 1, 1) := by decide +kernel
theorem dX7_creaseOf_34 : decode cX7_creaseOf 34 = .ok (.iload_n 2, 1) := by decide +kernel
theorem dX7_creaseOf_35 : decode cX7_creaseOf 35 = .ok (.invokevirtual 109, 3) := by decide +kernel
theorem dX7_creaseOf_38 : decode cX7_creaseOf 38 = .ok (.goto 4, 3) := by decide +kernel
theorem dX7_creaseOf_41 : decode cX7_creaseOf 41 = .ok (.iconst 0, 1) := by decide +kernel
theorem dX7_creaseOf_42 : decode cX7_creaseOf 42 = .ok (.ireturn, 1) := by decide +kernel
set_option maxRecDepth 20000 in
theorem ggX7_ofBoth_X7_lay : GoodIn wsX7_ofBoth wsX7_lay := goodIn_r _ [7, 2, 19, 20, 21, 22, 23, 24, 25, 26, 27, 28] (by decide +kernel) (by decide +kernel)
set_option maxRecDepth 20000 in
theorem gX7_ofBoth_X7_lay : GoodIn wsX7_ofBoth (wsV RX7 40 RX7 yX7_lay wsX7_lay) := goodIn_app (goodIn_of _ (by decide +kernel)) ggX7_ofBoth_X7_lay
set_option maxRecDepth 20000 in
theorem ggX7_ofBoth_X7_off : GoodIn wsX7_ofBoth wsX7_off := goodIn_r _ [10] (by decide +kernel) (by decide +kernel)
set_option maxRecDepth 20000 in
theorem gX7_ofBoth_X7_off : GoodIn wsX7_ofBoth (va_wsS RX7 112 yX7_off wsX7_off) := goodIn_app (goodIn_of _ (by decide +kernel)) ggX7_ofBoth_X7_off
set_option maxRecDepth 20000 in
theorem ggX7_ofBoth_X7_keptFor : GoodIn wsX7_ofBoth wsX7_keptFor := goodIn_r _ [14, 1, 15, 16, 17, 6, 18, 19, 20, 21, 22, 23, 24, 25, 26, 27, 28] (by decide +kernel) (by decide +kernel)
set_option maxRecDepth 20000 in
theorem gX7_ofBoth_X7_keptFor : GoodIn wsX7_ofBoth (wsV RX7 81 RX7 yX7_keptFor wsX7_keptFor) := goodIn_app (goodIn_of _ (by decide +kernel)) ggX7_ofBoth_X7_keptFor
theorem dX7_ofBoth_0 : decode cX7_ofBoth 0 = .ok (.aload_n 0, 1) := by decide +kernel
theorem dX7_ofBoth_1 : decode cX7_ofBoth 1 = .ok (.getfield 7, 3) := by decide +kernel
theorem dX7_ofBoth_4 : decode cX7_ofBoth 4 = .ok (.bipush 11, 2) := by decide +kernel
theorem dX7_ofBoth_6 : decode cX7_ofBoth 6 = .ok (.iload_n 1, 1) := by decide +kernel
theorem dX7_ofBoth_7 : decode cX7_ofBoth 7 = .ok (.iadd, 1) := by decide +kernel
theorem dX7_ofBoth_8 : decode cX7_ofBoth 8 = .ok (.iaload, 1) := by decide +kernel
theorem dX7_ofBoth_9 : decode cX7_ofBoth 9 = .ok (.istore 4, 2) := by decide +kernel
theorem dX7_ofBoth_11 : decode cX7_ofBoth 11 = .ok (.aload_n 0, 1) := by decide +kernel
theorem dX7_ofBoth_12 : decode cX7_ofBoth 12 = .ok (.getfield 7, 3) := by decide +kernel
theorem dX7_ofBoth_15 : decode cX7_ofBoth 15 = .ok (.bipush 11, 2) := by decide +kernel
theorem dX7_ofBoth_17 : decode cX7_ofBoth 17 = .ok (.iload_n 2, 1) := by decide +kernel
theorem dX7_ofBoth_18 : decode cX7_ofBoth 18 = .ok (.iadd, 1) := by decide +kernel
theorem dX7_ofBoth_19 : decode cX7_ofBoth 19 = .ok (.iaload, 1) := by decide +kernel
theorem dX7_ofBoth_20 : decode cX7_ofBoth 20 = .ok (.istore 5, 2) := by decide +kernel
theorem dX7_ofBoth_22 : decode cX7_ofBoth 22 = .ok (.aload_n 0, 1) := by decide +kernel
theorem dX7_ofBoth_23 : decode cX7_ofBoth 23 = .ok (.aload_n 0, 1) := by decide +kernel
theorem dX7_ofBoth_24 : decode cX7_ofBoth 24 = .ok (.getfield 7, 3) := by decide +kernel
theorem dX7_ofBoth_27 : decode cX7_ofBoth 27 = .ok (.iconst 0, 1) := by decide +kernel
theorem dX7_ofBoth_28 : decode cX7_ofBoth 28 = .ok (.iaload, 1) := by decide +kernel
theorem dX7_ofBoth_29 : decode cX7_ofBoth 29 = .ok (.invokevirtual 40, 3) := by decide +kernel
theorem dX7_ofBoth_32 : decode cX7_ofBoth 32 = .ok (.iload_n 3, 1) := by decide +kernel
theorem dX7_ofBoth_33 : decode cX7_ofBoth 33 = .ok (.tableswitch 76 0 2 #[27, 35, 53], 27) := by decide +kernel
theorem dX7_ofBoth_60 : decode cX7_ofBoth 60 = .ok (.iload 4, 2) := by decide +kernel
theorem dX7_ofBoth_62 : decode cX7_ofBoth 62 = .ok (.iload 5, 2) := by decide +kernel
theorem dX7_ofBoth_64 : decode cX7_ofBoth 64 = .ok (.invokestatic 112, 3) := by decide +kernel
theorem dX7_ofBoth_67 : decode cX7_ofBoth 67 = .ok (.ireturn, 1) := by decide +kernel
theorem dX7_ofBoth_68 : decode cX7_ofBoth 68 = .ok (.aload_n 0, 1) := by decide +kernel
theorem dX7_ofBoth_69 : decode cX7_ofBoth 69 = .ok (.getfield 26, 3) := by decide +kernel
theorem dX7_ofBoth_72 : decode cX7_ofBoth 72 = .ok (.iload 4, 2) := by decide +kernel
theorem dX7_ofBoth_74 : decode cX7_ofBoth 74 = .ok (.iaload, 1) := by decide +kernel
theorem dX7_ofBoth_75 : decode cX7_ofBoth 75 = .ok (.aload_n 0, 1) := by decide +kernel
theorem dX7_ofBoth_76 : decode cX7_ofBoth 76 = .ok (.getfield 26, 3) := by decide +kernel
theorem dX7_ofBoth_79 : decode cX7_ofBoth 79 = .ok (.iload 5, 2) := by decide +kernel
theorem dX7_ofBoth_81 : decode cX7_ofBoth 81 = .ok (.iaload, 1) := by decide +kernel
theorem dX7_ofBoth_82 : decode cX7_ofBoth 82 = .ok (.invokestatic 112, 3) := by decide +kernel
theorem dX7_ofBoth_85 : decode cX7_ofBoth 85 = .ok (.ireturn, 1) := by decide +kernel
theorem dX7_ofBoth_86 : decode cX7_ofBoth 86 = .ok (.aload_n 0, 1) := by decide +kernel
theorem dX7_ofBoth_87 : decode cX7_ofBoth 87 = .ok (.getfield 26, 3) := by decide +kernel
theorem dX7_ofBoth_90 : decode cX7_ofBoth 90 = .ok (.iload 4, 2) := by decide +kernel
theorem dX7_ofBoth_92 : decode cX7_ofBoth 92 = .ok (.iaload, 1) := by decide +kernel
theorem dX7_ofBoth_93 : decode cX7_ofBoth 93 = .ok (.aload_n 0, 1) := by decide +kernel
theorem dX7_ofBoth_94 : decode cX7_ofBoth 94 = .ok (.getfield 26, 3) := by decide +kernel
theorem dX7_ofBoth_97 : decode cX7_ofBoth 97 = .ok (.iload 5, 2) := by decide +kernel
theorem dX7_ofBoth_99 : decode cX7_ofBoth 99 = .ok (.iaload, 1) := by decide +kernel
theorem dX7_ofBoth_100 : decode cX7_ofBoth 100 = .ok (.if_icmp .ne 7, 3) := by decide +kernel
theorem dX7_ofBoth_103 : decode cX7_ofBoth 103 = .ok (.iconst 1, 1) := by decide +kernel
theorem dX7_ofBoth_104 : decode cX7_ofBoth 104 = .ok (.goto 4, 3) := by decide +kernel
theorem dX7_ofBoth_107 : decode cX7_ofBoth 107 = .ok (.iconst 0, 1) := by decide +kernel
theorem dX7_ofBoth_108 : decode cX7_ofBoth 108 = .ok (.ireturn, 1) := by decide +kernel
theorem dX7_ofBoth_109 : decode cX7_ofBoth 109 = .ok (.aload_n 0, 1) := by decide +kernel
theorem dX7_ofBoth_110 : decode cX7_ofBoth 110 = .ok (.iload 4, 2) := by decide +kernel
theorem dX7_ofBoth_112 : decode cX7_ofBoth 112 = .ok (.iload 5, 2) := by decide +kernel
theorem dX7_ofBoth_114 : decode cX7_ofBoth 114 = .ok (.invokevirtual 81, 3) := by decide +kernel
theorem dX7_ofBoth_117 : decode cX7_ofBoth 117 = .ok (.ireturn, 1) := by decide +kernel
set_option maxRecDepth 20000 in
theorem ggX7_between_X7_isTown : GoodIn wsX7_between wsX7_isTown := goodIn_r _ [4, 5, 6, 3, 7] (by decide +kernel) (by decide +kernel)
set_option maxRecDepth 20000 in
theorem gX7_between_X7_isTown : GoodIn wsX7_between (va_wsS RX7 69 yX7_isTown wsX7_isTown) := goodIn_app (goodIn_of _ (by decide +kernel)) ggX7_between_X7_isTown
set_option maxRecDepth 20000 in
theorem ggX7_between_X7_in : GoodIn wsX7_between wsX7_in := goodIn_r _ [7] (by decide +kernel) (by decide +kernel)
set_option maxRecDepth 20000 in
theorem gX7_between_X7_in : GoodIn wsX7_between (va_wsS RX7 33 yX7_in wsX7_in) := goodIn_app (goodIn_of _ (by decide +kernel)) ggX7_between_X7_in
set_option maxRecDepth 20000 in
theorem ggX7_between_X7_holds : GoodIn wsX7_between wsX7_holds := goodIn_r _ [11, 12, 34, 35, 36, 37, 38, 39, 40, 41, 42, 43] (by decide +kernel) (by decide +kernel)
set_option maxRecDepth 20000 in
theorem gX7_between_X7_holds : GoodIn wsX7_between (wsV RX7 59 RX7 yX7_holds wsX7_holds) := goodIn_app (goodIn_of _ (by decide +kernel)) ggX7_between_X7_holds
set_option maxRecDepth 20000 in
theorem ggX7_between_X7_ofBoth : GoodIn wsX7_between wsX7_ofBoth := goodIn_r _ [16, 17, 18, 19, 20, 21, 3, 22, 23, 24, 25, 26, 27, 28, 29, 30, 31, 32, 33, 34, 35, 36, 37, 38, 39, 40, 41, 42, 43] (by decide +kernel) (by decide +kernel)
set_option maxRecDepth 20000 in
theorem gX7_between_X7_ofBoth : GoodIn wsX7_between (wsV RX7 115 RX7 yX7_ofBoth wsX7_ofBoth) := goodIn_app (goodIn_of _ (by decide +kernel)) ggX7_between_X7_ofBoth
theorem dX7_between_0 : decode cX7_between 0 = .ok (.aload_n 0, 1) := by decide +kernel
theorem dX7_between_1 : decode cX7_between 1 = .ok (.iload_n 1, 1) := by decide +kernel
theorem dX7_between_2 : decode cX7_between 2 = .ok (.invokestatic 69, 3) := by decide +kernel
theorem dX7_between_5 : decode cX7_between 5 = .ok (.ifCond .eq 10, 3) := by decide +kernel
theorem dX7_between_8 : decode cX7_between 8 = .ok (.iload_n 2, 1) := by decide +kernel
theorem dX7_between_9 : decode cX7_between 9 = .ok (.invokestatic 69, 3) := by decide +kernel
theorem dX7_between_12 : decode cX7_between 12 = .ok (.ifCond .ne 7, 3) := by decide +kernel
theorem dX7_between_15 : decode cX7_between 15 = .ok (.iconst 1, 1) := by decide +kernel
theorem dX7_between_16 : decode cX7_between 16 = .ok (.goto 17, 3) := by decide +kernel
theorem dX7_between_19 : decode cX7_between 19 = .ok (.iload_n 3, 1) := by decide +kernel
theorem dX7_between_20 : decode cX7_between 20 = .ok (.iconst 0, 1) := by decide +kernel
theorem dX7_between_21 : decode cX7_between 21 = .ok (.iconst 3, 1) := by decide +kernel
theorem dX7_between_22 : decode cX7_between 22 = .ok (.invokestatic 33, 3) := by decide +kernel
theorem dX7_between_25 : decode cX7_between 25 = .ok (.ifCond .ne 7, 3) := by decide +kernel
theorem dX7_between_28 : decode cX7_between 28 = .ok (.iconst 2, 1) := by decide +kernel
theorem dX7_between_29 : decode cX7_between 29 = .ok (.goto 4, 3) := by decide +kernel
theorem dX7_between_32 : decode cX7_between 32 = .ok (.iconst 0, 1) := by decide +kernel
theorem dX7_between_33 : decode cX7_between 33 = .ok (.invokevirtual 59, 3) := by decide +kernel
theorem dX7_between_36 : decode cX7_between 36 = .ok (.ifCond .eq 13, 3) := by decide +kernel
theorem dX7_between_39 : decode cX7_between 39 = .ok (.aload_n 0, 1) := by decide +kernel
theorem dX7_between_40 : decode cX7_between 40 = .ok (.iload_n 1, 1) := by decide +kernel
theorem dX7_between_41 : decode cX7_between 41 = .ok (.iload_n 2, 1) := by decide +kernel
theorem dX7_between_42 : decode cX7_between 42 = .ok (.iload_n 3, 1) := by decide +kernel
theorem dX7_between_43 : decode cX7_between 43 = .ok (.invokevirtual 115, 3) := by decide +kernel
theorem dX7_between_46 : decode cX7_between 46 = .ok (.goto 4, 3) := by decide +kernel
theorem dX7_between_49 : decode cX7_between 49 = .ok (.iconst 0, 1) := by decide +kernel
theorem dX7_between_50 : decode cX7_between 50 = .ok (.ireturn, 1) := by decide +kernel
set_option maxRecDepth 20000 in
theorem ggX7_town_X7_isTown : GoodIn wsX7_town wsX7_isTown := goodIn_r _ [5, 6, 7, 4, 8] (by decide +kernel) (by decide +kernel)
set_option maxRecDepth 20000 in
theorem gX7_town_X7_isTown : GoodIn wsX7_town (va_wsS RX7 69 yX7_isTown wsX7_isTown) := goodIn_app (goodIn_of _ (by decide +kernel)) ggX7_town_X7_isTown
set_option maxRecDepth 20000 in
theorem ggX7_town_X7_holds : GoodIn wsX7_town wsX7_holds := goodIn_r _ [12, 13, 14, 15, 16, 17, 18, 19, 20, 21, 22, 23] (by decide +kernel) (by decide +kernel)
set_option maxRecDepth 20000 in
theorem gX7_town_X7_holds : GoodIn wsX7_town (wsV RX7 59 RX7 yX7_holds wsX7_holds) := goodIn_app (goodIn_of _ (by decide +kernel)) ggX7_town_X7_holds
theorem dX7_town_0 : decode cX7_town 0 = .ok (.aload_n 0, 1) := by decide +kernel
theorem dX7_town_1 : decode cX7_town 1 = .ok (.iload_n 1, 1) := by decide +kernel
theorem dX7_town_2 : decode cX7_town 2 = .ok (.invokestatic 69, 3) := by decide +kernel
theorem dX7_town_5 : decode cX7_town 5 = .ok (.ifCond .eq 7, 3) := by decide +kernel
theorem dX7_town_8 : decode cX7_town 8 = .ok (.iconst 0, 1) := by decide +kernel
theorem dX7_town_9 : decode cX7_town 9 = .ok (.goto 4, 3) := by decide +kernel
theorem dX7_town_12 : decode cX7_town 12 = .ok (.iconst 1, 1) := by decide +kernel
theorem dX7_town_13 : decode cX7_town 13 = .ok (.invokevirtual 59, 3) := by decide +kernel
theorem dX7_town_16 : decode cX7_town 16 = .ok (.ifCond .eq 15, 3) := by decide +kernel
theorem dX7_town_19 : decode cX7_town 19 = .ok (.aload_n 0, 1) := by decide +kernel
theorem dX7_town_20 : decode cX7_town 20 = .ok (.getfield 7, 3) := by decide +kernel
theorem dX7_town_23 : decode cX7_town 23 = .ok (.bipush 11, 2) := by decide +kernel
theorem dX7_town_25 : decode cX7_town 25 = .ok (.iload_n 1, 1) := by decide +kernel
theorem dX7_town_26 : decode cX7_town 26 = .ok (.iadd, 1) := by decide +kernel
theorem dX7_town_27 : decode cX7_town 27 = .ok (.iaload, 1) := by decide +kernel
theorem dX7_town_28 : decode cX7_town 28 = .ok (.goto 4, 3) := by decide +kernel
theorem dX7_town_31 : decode cX7_town 31 = .ok (.iconst 0, 1) := by decide +kernel
theorem dX7_town_32 : decode cX7_town 32 = .ok (.ireturn, 1) := by decide +kernel
set_option maxRecDepth 20000 in
theorem ggX7_wide_X7_lay : GoodIn wsX7_wide wsX7_lay := goodIn_r _ [7, 2, 8, 9, 10, 11, 12, 13, 14, 15, 16, 17] (by decide +kernel) (by decide +kernel)
set_option maxRecDepth 20000 in
theorem gX7_wide_X7_lay : GoodIn wsX7_wide (wsV RX7 40 RX7 yX7_lay wsX7_lay) := goodIn_app (goodIn_of _ (by decide +kernel)) ggX7_wide_X7_lay
theorem dX7_wide_0 : decode cX7_wide 0 = .ok (.aload_n 0, 1) := by decide +kernel
theorem dX7_wide_1 : decode cX7_wide 1 = .ok (.aload_n 0, 1) := by decide +kernel
theorem dX7_wide_2 : decode cX7_wide 2 = .ok (.getfield 7, 3) := by decide +kernel
theorem dX7_wide_5 : decode cX7_wide 5 = .ok (.iconst 0, 1) := by decide +kernel
theorem dX7_wide_6 : decode cX7_wide 6 = .ok (.iaload, 1) := by decide +kernel
theorem dX7_wide_7 : decode cX7_wide 7 = .ok (.invokevirtual 40, 3) := by decide +kernel
theorem dX7_wide_10 : decode cX7_wide 10 = .ok (.iconst 0, 1) := by decide +kernel
theorem dX7_wide_11 : decode cX7_wide 11 = .ok (.istore_n 1, 1) := by decide +kernel
theorem dX7_wide_12 : decode cX7_wide 12 = .ok (.iconst 0, 1) := by decide +kernel
theorem dX7_wide_13 : decode cX7_wide 13 = .ok (.istore_n 2, 1) := by decide +kernel
theorem dX7_wide_14 : decode cX7_wide 14 = .ok (.iconst 0, 1) := by decide +kernel
theorem dX7_wide_15 : decode cX7_wide 15 = .ok (.istore_n 3, 1) := by decide +kernel
theorem dX7_wide_16 : decode cX7_wide 16 = .ok (.iload_n 3, 1) := by decide +kernel
theorem dX7_wide_17 : decode cX7_wide 17 = .ok (.bipush 10, 2) := by decide +kernel
theorem dX7_wide_19 : decode cX7_wide 19 = .ok (.if_icmp .ge 51, 3) := by decide +kernel
theorem dX7_wide_22 : decode cX7_wide 22 = .ok (.aload_n 0, 1) := by decide +kernel
theorem dX7_wide_23 : decode cX7_wide 23 = .ok (.getfield 26, 3) := by decide +kernel
theorem dX7_wide_26 : decode cX7_wide 26 = .ok (.iload_n 3, 1) := by decide +kernel
theorem dX7_wide_27 : decode cX7_wide 27 = .ok (.iaload, 1) := by decide +kernel
theorem dX7_wide_28 : decode cX7_wide 28 = .ok (.iload_n 1, 1) := by decide +kernel
theorem dX7_wide_29 : decode cX7_wide 29 = .ok (.if_icmp .ge 12, 3) := by decide +kernel
theorem dX7_wide_32 : decode cX7_wide 32 = .ok (.aload_n 0, 1) := by decide +kernel
theorem dX7_wide_33 : decode cX7_wide 33 = .ok (.getfield 26, 3) := by decide +kernel
theorem dX7_wide_36 : decode cX7_wide 36 = .ok (.iload_n 3, 1) := by decide +kernel
theorem dX7_wide_37 : decode cX7_wide 37 = .ok (.iaload, 1) := by decide +kernel
theorem dX7_wide_38 : decode cX7_wide 38 = .ok (.goto 4, 3) := by decide +kernel
theorem dX7_wide_41 : decode cX7_wide 41 = .ok (.iload_n 1, 1) := by decide +kernel
theorem dX7_wide_42 : decode cX7_wide 42 = .ok (.istore_n 1, 1) := by decide +kernel
theorem dX7_wide_43 : decode cX7_wide 43 = .ok (.aload_n 0, 1) := by decide +kernel
theorem dX7_wide_44 : decode cX7_wide 44 = .ok (.getfield 26, 3) := by decide +kernel
theorem dX7_wide_47 : decode cX7_wide 47 = .ok (.iload_n 3, 1) := by decide +kernel
theorem dX7_wide_48 : decode cX7_wide 48 = .ok (.iaload, 1) := by decide +kernel
theorem dX7_wide_49 : decode cX7_wide 49 = .ok (.iload_n 2, 1) := by decide +kernel
theorem dX7_wide_50 : decode cX7_wide 50 = .ok (.if_icmp .le 12, 3) := by decide +kernel
theorem dX7_wide_53 : decode cX7_wide 53 = .ok (.aload_n 0, 1) := by decide +kernel
theorem dX7_wide_54 : decode cX7_wide 54 = .ok (.getfield 26, 3) := by decide +kernel
theorem dX7_wide_57 : decode cX7_wide 57 = .ok (.iload_n 3, 1) := by decide +kernel
theorem dX7_wide_58 : decode cX7_wide 58 = .ok (.iaload, 1) := by decide +kernel
theorem dX7_wide_59 : decode cX7_wide 59 = .ok (.goto 4, 3) := by decide +kernel
theorem dX7_wide_62 : decode cX7_wide 62 = .ok (.iload_n 2, 1) := by decide +kernel
theorem dX7_wide_63 : decode cX7_wide 63 = .ok (.istore_n 2, 1) := by decide +kernel
theorem dX7_wide_64 : decode cX7_wide 64 = .ok (.iinc 3 1, 3) := by decide +kernel
theorem dX7_wide_67 : decode cX7_wide 67 = .ok (.goto (-51), 3) := by decide +kernel
theorem dX7_wide_70 : decode cX7_wide 70 = .ok (.iload_n 2, 1) := by decide +kernel
theorem dX7_wide_71 : decode cX7_wide 71 = .ok (.iload_n 1, 1) := by decide +kernel
theorem dX7_wide_72 : decode cX7_wide 72 = .ok (.isub, 1) := by decide +kernel
theorem dX7_wide_73 : decode cX7_wide 73 = .ok (.iconst 1, 1) := by decide +kernel
theorem dX7_wide_74 : decode cX7_wide 74 = .ok (.iadd, 1) := by decide +kernel
theorem dX7_wide_75 : decode cX7_wide 75 = .ok (.ireturn, 1) := by decide +kernel
set_option maxRecDepth 20000 in
theorem ggX7_counted_X7_bits : GoodIn wsX7_counted wsX7_bits := goodIn_r _ [6] (by decide +kernel) (by decide +kernel)
set_option maxRecDepth 20000 in
theorem gX7_counted_X7_bits : GoodIn wsX7_counted (va_wsS RX7 75 yX7_bits wsX7_bits) := goodIn_app (goodIn_of _ (by decide +kernel)) ggX7_counted_X7_bits
set_option maxRecDepth 20000 in
theorem ggX7_counted_X7_wide : GoodIn wsX7_counted wsX7_wide := goodIn_r _ [10, 1, 11, 12, 13, 14, 5, 15, 28, 29, 30, 31, 32, 33, 34, 35, 36, 37] (by decide +kernel) (by decide +kernel)
set_option maxRecDepth 20000 in
theorem gX7_counted_X7_wide : GoodIn wsX7_counted (wsV RX7 119 RX7 yX7_wide wsX7_wide) := goodIn_app (goodIn_of _ (by decide +kernel)) ggX7_counted_X7_wide
set_option maxRecDepth 20000 in
theorem ggX7_counted_X7_fitting : GoodIn wsX7_counted wsX7_fitting := goodIn_r _ [19, 20, 21, 22, 5, 23, 1, 11, 12, 13, 14, 15, 24, 25, 26, 27, 28, 29, 30, 31, 32, 33, 34, 35, 36, 37] (by decide +kernel) (by decide +kernel)
set_option maxRecDepth 20000 in
theorem gX7_counted_X7_fitting : GoodIn wsX7_counted (wsV RX7 122 RX7 yX7_fitting wsX7_fitting) := goodIn_app (goodIn_of _ (by decide +kernel)) ggX7_counted_X7_fitting
theorem dX7_counted_0 : decode cX7_counted 0 = .ok (.iload_n 1, 1) := by decide +kernel
theorem dX7_counted_1 : decode cX7_counted 1 = .ok (.tableswitch 92 0 10 #[59, 59, 69, 74, 82, 82, 92, 92, 92, 92, 87], 59) := by decide +kernel
theorem dX7_counted_60 : decode cX7_counted 60 = .ok (.aload_n 0, 1) := by decide +kernel
theorem dX7_counted_61 : decode cX7_counted 61 = .ok (.getfield 7, 3) := by decide +kernel
theorem dX7_counted_64 : decode cX7_counted 64 = .ok (.iload_n 1, 1) := by decide +kernel
theorem dX7_counted_65 : decode cX7_counted 65 = .ok (.iaload, 1) := by decide +kernel
theorem dX7_counted_66 : decode cX7_counted 66 = .ok (.invokestatic 75, 3) := by decide +kernel
theorem dX7_counted_69 : decode cX7_counted 69 = .ok (.ireturn, 1) := by decide +kernel
theorem dX7_counted_70 : decode cX7_counted 70 = .ok (.aload_n 0, 1) := by decide +kernel
theorem dX7_counted_71 : decode cX7_counted 71 = .ok (.invokevirtual 119, 3) := by decide +kernel
theorem dX7_counted_74 : decode cX7_counted 74 = .ok (.ireturn, 1) := by decide +kernel
theorem dX7_counted_75 : decode cX7_counted 75 = .ok (.aload_n 0, 1) := by decide +kernel
theorem dX7_counted_76 : decode cX7_counted 76 = .ok (.getfield 7, 3) := by decide +kernel
theorem dX7_counted_79 : decode cX7_counted 79 = .ok (.bipush 17, 2) := by decide +kernel
theorem dX7_counted_81 : decode cX7_counted 81 = .ok (.iaload, 1) := by decide +kernel
theorem dX7_counted_82 : decode cX7_counted 82 = .ok (.ireturn, 1) := by decide +kernel
theorem dX7_counted_83 : decode cX7_counted 83 = .ok (.aload_n 0, 1) := by decide +kernel
theorem dX7_counted_84 : decode cX7_counted 84 = .ok (.invokevirtual 122, 3) := by decide +kernel
theorem dX7_counted_87 : decode cX7_counted 87 = .ok (.ireturn, 1) := by decide +kernel
theorem dX7_counted_88 : decode cX7_counted 88 = .ok (.aload_n 0, 1) := by decide +kernel
theorem dX7_counted_89 : decode cX7_counted 89 = .ok (.getfield 37, 3) := by decide +kernel
theorem dX7_counted_92 : decode cX7_counted 92 = .ok (.ireturn, 1) := by decide +kernel
theorem dX7_counted_93 : decode cX7_counted 93 = .ok (.aload_n 0, 1) := by decide +kernel
theorem dX7_counted_94 : decode cX7_counted 94 = .ok (.getfield 7, 3) := by decide +kernel
theorem dX7_counted_97 : decode cX7_counted 97 = .ok (.bipush 54, 2) := by decide +kernel
theorem dX7_counted_99 : decode cX7_counted 99 = .ok (.iload_n 1, 1) := by decide +kernel
theorem dX7_counted_100 : decode cX7_counted 100 = .ok (.iadd, 1) := by decide +kernel
theorem dX7_counted_101 : decode cX7_counted 101 = .ok (.bipush 6, 2) := by decide +kernel
theorem dX7_counted_103 : decode cX7_counted 103 = .ok (.isub, 1) := by decide +kernel
theorem dX7_counted_104 : decode cX7_counted 104 = .ok (.iaload, 1) := by decide +kernel
theorem dX7_counted_105 : decode cX7_counted 105 = .ok (.ireturn, 1) := by decide +kernel
set_option maxRecDepth 20000 in
theorem ggX7_count_X7_in : GoodIn wsX7_count wsX7_in := goodIn_r _ [4] (by decide +kernel) (by decide +kernel)
set_option maxRecDepth 20000 in
theorem gX7_count_X7_in : GoodIn wsX7_count (va_wsS RX7 33 yX7_in wsX7_in) := goodIn_app (goodIn_of _ (by decide +kernel)) ggX7_count_X7_in
set_option maxRecDepth 20000 in
theorem ggX7_count_X7_holds : GoodIn wsX7_count wsX7_holds := goodIn_r _ [8, 9, 40, 41, 42, 43, 44, 45, 46, 47, 48, 49] (by decide +kernel) (by decide +kernel)
set_option maxRecDepth 20000 in
theorem gX7_count_X7_holds : GoodIn wsX7_count (wsV RX7 59 RX7 yX7_holds wsX7_holds) := goodIn_app (goodIn_of _ (by decide +kernel)) ggX7_count_X7_holds
set_option maxRecDepth 20000 in
theorem ggX7_count_X7_counted : GoodIn wsX7_count wsX7_counted := goodIn_r _ [13, 14, 15, 16, 17, 3, 18, 19, 20, 21, 22, 23, 24, 25, 26, 27, 28, 29, 30, 31, 32, 33, 34, 35, 36, 37, 38, 39, 40, 41, 42, 43, 44, 45, 46, 47, 48, 49] (by decide +kernel) (by decide +kernel)
set_option maxRecDepth 20000 in
theorem gX7_count_X7_counted : GoodIn wsX7_count (wsV RX7 125 RX7 yX7_counted wsX7_counted) := goodIn_app (goodIn_of _ (by decide +kernel)) ggX7_count_X7_counted
theorem dX7_count_0 : decode cX7_count 0 = .ok (.aload_n 0, 1) := by decide +kernel
theorem dX7_count_1 : decode cX7_count 1 = .ok (.iload_n 1, 1) := by decide +kernel
theorem dX7_count_2 : decode cX7_count 2 = .ok (.iconst 0, 1) := by decide +kernel
theorem dX7_count_3 : decode cX7_count 3 = .ok (.bipush 10, 2) := by decide +kernel
theorem dX7_count_5 : decode cX7_count 5 = .ok (.invokestatic 33, 3) := by decide +kernel
theorem dX7_count_8 : decode cX7_count 8 = .ok (.ifCond .eq 7, 3) := by decide +kernel
theorem dX7_count_11 : decode cX7_count 11 = .ok (.iconst 0, 1) := by decide +kernel
theorem dX7_count_12 : decode cX7_count 12 = .ok (.goto 4, 3) := by decide +kernel
theorem dX7_count_15 : decode cX7_count 15 = .ok (.iconst 1, 1) := by decide +kernel
theorem dX7_count_16 : decode cX7_count 16 = .ok (.invokevirtual 59, 3) := by decide +kernel
theorem dX7_count_19 : decode cX7_count 19 = .ok (.ifCond .eq 11, 3) := by decide +kernel
theorem dX7_count_22 : decode cX7_count 22 = .ok (.aload_n 0, 1) := by decide +kernel
theorem dX7_count_23 : decode cX7_count 23 = .ok (.iload_n 1, 1) := by decide +kernel
theorem dX7_count_24 : decode cX7_count 24 = .ok (.invokevirtual 125, 3) := by decide +kernel
theorem dX7_count_27 : decode cX7_count 27 = .ok (.goto 4, 3) := by decide +kernel
theorem dX7_count_30 : decode cX7_count 30 = .ok (.iconst 0, 1) := by decide +kernel
theorem dX7_count_31 : decode cX7_count 31 = .ok (.ireturn, 1) := by decide +kernel
set_option maxRecDepth 20000 in
theorem ggX7_ifTouching_X7_isTown : GoodIn wsX7_ifTouching wsX7_isTown := goodIn_r _ [5, 6, 7, 4, 8] (by decide +kernel) (by decide +kernel)
set_option maxRecDepth 20000 in
theorem gX7_ifTouching_X7_isTown : GoodIn wsX7_ifTouching (va_wsS RX7 69 yX7_isTown wsX7_isTown) := goodIn_app (goodIn_of _ (by decide +kernel)) ggX7_ifTouching_X7_isTown
set_option maxRecDepth 20000 in
theorem ggX7_ifTouching_X7_holds : GoodIn wsX7_ifTouching wsX7_holds := goodIn_r _ [12, 13, 31, 32, 33, 34, 35, 36, 37, 38, 39, 40] (by decide +kernel) (by decide +kernel)
set_option maxRecDepth 20000 in
theorem gX7_ifTouching_X7_holds : GoodIn wsX7_ifTouching (wsV RX7 59 RX7 yX7_holds wsX7_holds) := goodIn_app (goodIn_of _ (by decide +kernel)) ggX7_ifTouching_X7_holds
set_option maxRecDepth 20000 in
theorem ggX7_ifTouching_X7_touching : GoodIn wsX7_ifTouching wsX7_touching := goodIn_r _ [17, 18, 19, 20, 21, 4, 22, 1, 23, 24, 25, 26, 27, 28, 29, 30, 31, 32, 33, 34, 35, 36, 37, 38, 39, 40] (by decide +kernel) (by decide +kernel)
set_option maxRecDepth 20000 in
theorem gX7_ifTouching_X7_touching : GoodIn wsX7_ifTouching (wsV RX7 128 RX7 yX7_touching wsX7_touching) := goodIn_app (goodIn_of _ (by decide +kernel)) ggX7_ifTouching_X7_touching
theorem dX7_ifTouching_0 : decode cX7_ifTouching 0 = .ok (.aload_n 0, 1) := by decide +kernel
theorem dX7_ifTouching_1 : decode cX7_ifTouching 1 = .ok (.iload_n 1, 1) := by decide +kernel
theorem dX7_ifTouching_2 : decode cX7_ifTouching 2 = .ok (.invokestatic 69, 3) := by decide +kernel
theorem dX7_ifTouching_5 : decode cX7_ifTouching 5 = .ok (.ifCond .eq 10, 3) := by decide +kernel
theorem dX7_ifTouching_8 : decode cX7_ifTouching 8 = .ok (.iload_n 2, 1) := by decide +kernel
theorem dX7_ifTouching_9 : decode cX7_ifTouching 9 = .ok (.invokestatic 69, 3) := by decide +kernel
theorem dX7_ifTouching_12 : decode cX7_ifTouching 12 = .ok (.ifCond .ne 7, 3) := by decide +kernel
theorem dX7_ifTouching_15 : decode cX7_ifTouching 15 = .ok (.iconst 1, 1) := by decide +kernel
theorem dX7_ifTouching_16 : decode cX7_ifTouching 16 = .ok (.goto 13, 3) := by decide +kernel
theorem dX7_ifTouching_19 : decode cX7_ifTouching 19 = .ok (.iload_n 1, 1) := by decide +kernel
theorem dX7_ifTouching_20 : decode cX7_ifTouching 20 = .ok (.iload_n 2, 1) := by decide +kernel
theorem dX7_ifTouching_21 : decode cX7_ifTouching 21 = .ok (.if_icmp .ne 7, 3) := by decide +kernel
theorem dX7_ifTouching_24 : decode cX7_ifTouching 24 = .ok (.iconst 2, 1) := by decide +kernel
theorem dX7_ifTouching_25 : decode cX7_ifTouching 25 = .ok (.goto 4, 3) := by decide +kernel
theorem dX7_ifTouching_28 : decode cX7_ifTouching 28 = .ok (.iconst 0, 1) := by decide +kernel
theorem dX7_ifTouching_29 : decode cX7_ifTouching 29 = .ok (.invokevirtual 59, 3) := by decide +kernel
theorem dX7_ifTouching_32 : decode cX7_ifTouching 32 = .ok (.ifCond .eq 28, 3) := by decide +kernel
theorem dX7_ifTouching_35 : decode cX7_ifTouching 35 = .ok (.aload_n 0, 1) := by decide +kernel
theorem dX7_ifTouching_36 : decode cX7_ifTouching 36 = .ok (.aload_n 0, 1) := by decide +kernel
theorem dX7_ifTouching_37 : decode cX7_ifTouching 37 = .ok (.getfield 7, 3) := by decide +kernel
theorem dX7_ifTouching_40 : decode cX7_ifTouching 40 = .ok (.bipush 11, 2) := by decide +kernel
theorem dX7_ifTouching_42 : decode cX7_ifTouching 42 = .ok (.iload_n 1, 1) := by decide +kernel
theorem dX7_ifTouching_43 : decode cX7_ifTouching 43 = .ok (.iadd, 1) := by decide +kernel
theorem dX7_ifTouching_44 : decode cX7_ifTouching 44 = .ok (.iaload, 1) := by decide +kernel
theorem dX7_ifTouching_45 : decode cX7_ifTouching 45 = .ok (.aload_n 0, 1) := by decide +kernel
theorem dX7_ifTouching_46 : decode cX7_ifTouching 46 = .ok (.getfield 7, 3) := by decide +kernel
theorem dX7_ifTouching_49 : decode cX7_ifTouching 49 = .ok (.bipush 11, 2) := by decide +kernel
theorem dX7_ifTouching_51 : decode cX7_ifTouching 51 = .ok (.iload_n 2, 1) := by decide +kernel
theorem dX7_ifTouching_52 : decode cX7_ifTouching 52 = .ok (.iadd, 1) := by decide +kernel
theorem dX7_ifTouching_53 : decode cX7_ifTouching 53 = .ok (.iaload, 1) := by decide +kernel
theorem dX7_ifTouching_54 : decode cX7_ifTouching 54 = .ok (.invokevirtual 128, 3) := by decide +kernel
theorem dX7_ifTouching_57 : decode cX7_ifTouching 57 = .ok (.goto 4, 3) := by decide +kernel
theorem dX7_ifTouching_60 : decode cX7_ifTouching 60 = .ok (.iconst 0, 1) := by decide +kernel
theorem dX7_ifTouching_61 : decode cX7_ifTouching 61 = .ok (.ireturn, 1) := by decide +kernel
set_option maxRecDepth 20000 in
theorem ggX7_question_X7_fitting : GoodIn wsX7_question wsX7_fitting := goodIn_r _ [6, 7, 8, 9, 5, 10, 1, 11, 12, 13, 14, 15, 16, 17, 18, 19, 28, 29, 30, 31, 32, 33, 34, 35, 36, 37] (by decide +kernel) (by decide +kernel)
set_option maxRecDepth 20000 in
theorem gX7_question_X7_fitting : GoodIn wsX7_question (wsV RX7 122 RX7 yX7_fitting wsX7_fitting) := goodIn_app (goodIn_of _ (by decide +kernel)) ggX7_question_X7_fitting
set_option maxRecDepth 20000 in
theorem ggX7_question_X7_keptFor : GoodIn wsX7_question wsX7_keptFor := goodIn_r _ [23, 1, 16, 17, 18, 5, 19, 28, 29, 30, 31, 32, 33, 34, 35, 36, 37] (by decide +kernel) (by decide +kernel)
set_option maxRecDepth 20000 in
theorem gX7_question_X7_keptFor : GoodIn wsX7_question (wsV RX7 81 RX7 yX7_keptFor wsX7_keptFor) := goodIn_app (goodIn_of _ (by decide +kernel)) ggX7_question_X7_keptFor
set_option maxRecDepth 20000 in
theorem ggX7_question_X7_touching : GoodIn wsX7_question wsX7_touching := goodIn_r _ [27, 11, 7, 8, 9, 5, 10, 1, 12, 13, 14, 15, 16, 17, 18, 19, 28, 29, 30, 31, 32, 33, 34, 35, 36, 37] (by decide +kernel) (by decide +kernel)
set_option maxRecDepth 20000 in
theorem gX7_question_X7_touching : GoodIn wsX7_question (wsV RX7 128 RX7 yX7_touching wsX7_touching) := goodIn_app (goodIn_of _ (by decide +kernel)) ggX7_question_X7_touching
theorem dX7_question_0 : decode cX7_question 0 = .ok (.aload_n 0, 1) := by decide +kernel
theorem dX7_question_1 : decode cX7_question 1 = .ok (.invokevirtual 122, 3) := by decide +kernel
theorem dX7_question_4 : decode cX7_question 4 = .ok (.istore_n 1, 1) := by decide +kernel
theorem dX7_question_5 : decode cX7_question 5 = .ok (.iconst (-1), 1) := by decide +kernel
theorem dX7_question_6 : decode cX7_question 6 = .ok (.istore_n 2, 1) := by decide +kernel
theorem dX7_question_7 : decode cX7_question 7 = .ok (.iconst 0, 1) := by decide +kernel
theorem dX7_question_8 : decode cX7_question 8 = .ok (.istore_n 3, 1) := by decide +kernel
theorem dX7_question_9 : decode cX7_question 9 = .ok (.iconst 0, 1) := by decide +kernel
theorem dX7_question_10 : decode cX7_question 10 = .ok (.istore 4, 2) := by decide +kernel
theorem dX7_question_12 : decode cX7_question 12 = .ok (.iload 4, 2) := by decide +kernel
theorem dX7_question_14 : decode cX7_question 14 = .ok (.bipush 36, 2) := by decide +kernel
theorem dX7_question_16 : decode cX7_question 16 = .ok (.if_icmp .ge 155, 3) := by decide +kernel
theorem dX7_question_19 : decode cX7_question 19 = .ok (.aload_n 0, 1) := by decide +kernel
theorem dX7_question_20 : decode cX7_question 20 = .ok (.getfield 7, 3) := by decide +kernel
theorem dX7_question_23 : decode cX7_question 23 = .ok (.bipush 11, 2) := by decide +kernel
theorem dX7_question_25 : decode cX7_question 25 = .ok (.iload 4, 2) := by decide +kernel
theorem dX7_question_27 : decode cX7_question 27 = .ok (.bipush 6, 2) := by decide +kernel
theorem dX7_question_29 : decode cX7_question 29 = .ok (.idiv, 1) := by decide +kernel
theorem dX7_question_30 : decode cX7_question 30 = .ok (.iadd, 1) := by decide +kernel
theorem dX7_question_31 : decode cX7_question 31 = .ok (.iaload, 1) := by decide +kernel
theorem dX7_question_32 : decode cX7_question 32 = .ok (.istore 5, 2) := by decide +kernel
theorem dX7_question_34 : decode cX7_question 34 = .ok (.aload_n 0, 1) := by decide +kernel
theorem dX7_question_35 : decode cX7_question 35 = .ok (.getfield 7, 3) := by decide +kernel
theorem dX7_question_38 : decode cX7_question 38 = .ok (.bipush 11, 2) := by decide +kernel
theorem dX7_question_40 : decode cX7_question 40 = .ok (.iload 4, 2) := by decide +kernel
theorem dX7_question_42 : decode cX7_question 42 = .ok (.bipush 6, 2) := by decide +kernel
theorem dX7_question_44 : decode cX7_question 44 = .ok (.irem, 1) := by decide +kernel
theorem dX7_question_45 : decode cX7_question 45 = .ok (.iadd, 1) := by decide +kernel
theorem dX7_question_46 : decode cX7_question 46 = .ok (.iaload, 1) := by decide +kernel
theorem dX7_question_47 : decode cX7_question 47 = .ok (.istore 6, 2) := by decide +kernel
theorem dX7_question_49 : decode cX7_question 49 = .ok (.iload 4, 2) := by decide +kernel
theorem dX7_question_51 : decode cX7_question 51 = .ok (.bipush 6, 2) := by decide +kernel
theorem dX7_question_53 : decode cX7_question 53 = .ok (.idiv, 1) := by decide +kernel
theorem dX7_question_54 : decode cX7_question 54 = .ok (.iload 4, 2) := by decide +kernel
theorem dX7_question_56 : decode cX7_question 56 = .ok (.bipush 6, 2) := by decide +kernel
theorem dX7_question_58 : decode cX7_question 58 = .ok (.irem, 1) := by decide +kernel
theorem dX7_question_59 : decode cX7_question 59 = .ok (.if_icmp .ge 106, 3) := by decide +kernel
theorem dX7_question_62 : decode cX7_question 62 = .ok (.iload 5, 2) := by decide +kernel
theorem dX7_question_64 : decode cX7_question 64 = .ok (.iload 6, 2) := by decide +kernel
theorem dX7_question_66 : decode cX7_question 66 = .ok (.if_icmp .eq 99, 3) := by decide +kernel
theorem dX7_question_69 : decode cX7_question 69 = .ok (.aload_n 0, 1) := by decide +kernel
theorem dX7_question_70 : decode cX7_question 70 = .ok (.iload 5, 2) := by decide +kernel
theorem dX7_question_72 : decode cX7_question 72 = .ok (.iload 6, 2) := by decide +kernel
theorem dX7_question_74 : decode cX7_question 74 = .ok (.invokevirtual 81, 3) := by decide +kernel
theorem dX7_question_77 : decode cX7_question 77 = .ok (.iconst (-1), 1) := by decide +kernel
theorem dX7_question_78 : decode cX7_question 78 = .ok (.if_icmp .ne 87, 3) := by decide +kernel
theorem dX7_question_81 : decode cX7_question 81 = .ok (.aload_n 0, 1) := by decide +kernel
theorem dX7_question_82 : decode cX7_question 82 = .ok (.iload 5, 2) := by decide +kernel
theorem dX7_question_84 : decode cX7_question 84 = .ok (.iload 6, 2) := by decide +kernel
theorem dX7_question_86 : decode cX7_question 86 = .ok (.invokevirtual 128, 3) := by decide +kernel
theorem dX7_question_89 : decode cX7_question 89 = .ok (.istore 7, 2) := by decide +kernel
theorem dX7_question_91 : decode cX7_question 91 = .ok (.iload 7, 2) := by decide +kernel
theorem dX7_question_93 : decode cX7_question 93 = .ok (.iload_n 1, 1) := by decide +kernel
theorem dX7_question_94 : decode cX7_question 94 = .ok (.iload 7, 2) := by decide +kernel
theorem dX7_question_96 : decode cX7_question 96 = .ok (.isub, 1) := by decide +kernel
theorem dX7_question_97 : decode cX7_question 97 = .ok (.if_icmp .le 8, 3) := by decide +kernel
theorem dX7_question_100 : decode cX7_question 100 = .ok (.iload 7, 2) := by decide +kernel
theorem dX7_question_102 : decode cX7_question 102 = .ok (.goto 7, 3) := by decide +kernel
theorem dX7_question_105 : decode cX7_question 105 = .ok (.iload_n 1, 1) := by decide +kernel
theorem dX7_question_106 : decode cX7_question 106 = .ok (.iload 7, 2) := by decide +kernel
theorem dX7_question_108 : decode cX7_question 108 = .ok (.isub, 1) := by decide +kernel
theorem dX7_question_109 : decode cX7_question 109 = .ok (.istore 8, 2) := by decide +kernel
theorem dX7_question_111 : decode cX7_question 111 = .ok (.iload_n 2, 1) := by decide +kernel
theorem dX7_question_112 : decode cX7_question 112 = .ok (.iconst (-1), 1) := by decide +kernel
theorem dX7_question_113 : decode cX7_question 113 = .ok (.if_icmp .eq 9, 3) := by decide +kernel
theorem dX7_question_116 : decode cX7_question 116 = .ok (.iload 8, 2) := by decide +kernel
theorem dX7_question_118 : decode cX7_question 118 = .ok (.iload_n 3, 1) := by decide +kernel
theorem dX7_question_119 : decode cX7_question 119 = .ok (.if_icmp .ge 7, 3) := by decide +kernel
theorem dX7_question_122 : decode cX7_question 122 = .ok (.iconst 1, 1) := by decide +kernel
theorem dX7_question_123 : decode cX7_question 123 = .ok (.goto 4, 3) := by decide +kernel
theorem dX7_question_126 : decode cX7_question 126 = .ok (.iconst 0, 1) := by decide +kernel
theorem dX7_question_127 : decode cX7_question 127 = .ok (.istore 9, 2) := by decide +kernel
theorem dX7_question_129 : decode cX7_question 129 = .ok (.iload 9, 2) := by decide +kernel
theorem dX7_question_131 : decode cX7_question 131 = .ok (.ifCond .eq 20, 3) := by decide +kernel
theorem dX7_question_134 : decode cX7_question 134 = .ok (.bipush 10, 2) := by decide +kernel
theorem dX7_question_136 : decode cX7_question 136 = .ok (.iload 4, 2) := by decide +kernel
theorem dX7_question_138 : decode cX7_question 138 = .ok (.bipush 6, 2) := by decide +kernel
theorem dX7_question_140 : decode cX7_question 140 = .ok (.idiv, 1) := by decide +kernel
theorem dX7_question_141 : decode cX7_question 141 = .ok (.imul, 1) := by decide +kernel
theorem dX7_question_142 : decode cX7_question 142 = .ok (.iload 4, 2) := by decide +kernel
theorem dX7_question_144 : decode cX7_question 144 = .ok (.bipush 6, 2) := by decide +kernel
theorem dX7_question_146 : decode cX7_question 146 = .ok (.irem, 1) := by decide +kernel
theorem dX7_question_147 : decode cX7_question 147 = .ok (.iadd, 1) := by decide +kernel
theorem dX7_question_148 : decode cX7_question 148 = .ok (.goto 4, 3) := by decide +kernel
theorem dX7_question_151 : decode cX7_question 151 = .ok (.iload_n 2, 1) := by decide +kernel
theorem dX7_question_152 : decode cX7_question 152 = .ok (.istore_n 2, 1) := by decide +kernel
theorem dX7_question_153 : decode cX7_question 153 = .ok (.iload 9, 2) := by decide +kernel
theorem dX7_question_155 : decode cX7_question 155 = .ok (.ifCond .eq 8, 3) := by decide +kernel
theorem dX7_question_158 : decode cX7_question 158 = .ok (.iload 8, 2) := by decide +kernel
theorem dX7_question_160 : decode cX7_question 160 = .ok (.goto 4, 3) := by decide +kernel
theorem dX7_question_163 : decode cX7_question 163 = .ok (.iload_n 3, 1) := by decide +kernel
theorem dX7_question_164 : decode cX7_question 164 = .ok (.istore_n 3, 1) := by decide +kernel
theorem dX7_question_165 : decode cX7_question 165 = .ok (.iinc 4 1, 3) := by decide +kernel
theorem dX7_question_168 : decode cX7_question 168 = .ok (.goto (-156), 3) := by decide +kernel
theorem dX7_question_171 : decode cX7_question 171 = .ok (.iload_n 2, 1) := by decide +kernel
theorem dX7_question_172 : decode cX7_question 172 = .ok (.ireturn, 1) := by decide +kernel
set_option maxRecDepth 20000 in
theorem ggX7_bestQuestion_X7_question : GoodIn wsX7_bestQuestion wsX7_question := goodIn_r _ [6, 7, 8, 9, 10, 5, 11, 12, 13, 14, 15, 16, 17, 18, 19, 20, 21, 22, 23, 24, 25, 26, 27, 28, 29, 30, 31, 32, 33, 34, 35, 36, 37, 38, 39, 40, 41, 42] (by decide +kernel) (by decide +kernel)
set_option maxRecDepth 20000 in
theorem gX7_bestQuestion_X7_question : GoodIn wsX7_bestQuestion (wsV RX7 131 RX7 yX7_question wsX7_question) := goodIn_app (goodIn_of _ (by decide +kernel)) ggX7_bestQuestion_X7_question
theorem dX7_bestQuestion_0 : decode cX7_bestQuestion 0 = .ok (.aload_n 0, 1) := by decide +kernel
theorem dX7_bestQuestion_1 : decode cX7_bestQuestion 1 = .ok (.iconst 0, 1) := by decide +kernel
theorem dX7_bestQuestion_2 : decode cX7_bestQuestion 2 = .ok (.putfield 29, 3) := by decide +kernel
theorem dX7_bestQuestion_5 : decode cX7_bestQuestion 5 = .ok (.aload_n 0, 1) := by decide +kernel
theorem dX7_bestQuestion_6 : decode cX7_bestQuestion 6 = .ok (.invokevirtual 131, 3) := by decide +kernel
theorem dX7_bestQuestion_9 : decode cX7_bestQuestion 9 = .ok (.ireturn, 1) := by decide +kernel
set_option maxRecDepth 20000 in
theorem ggX7_foldingAt_X7_fits : GoodIn wsX7_foldingAt wsX7_fits := goodIn_r _ [5, 6, 7, 8, 9, 10, 4, 11, 12, 13, 14, 15, 16, 17, 18, 19, 20, 21, 22, 23, 24, 25] (by decide +kernel) (by decide +kernel)
set_option maxRecDepth 20000 in
theorem gX7_foldingAt_X7_fits : GoodIn wsX7_foldingAt (wsV RX7 48 RX7 yX7_fits wsX7_fits) := goodIn_app (goodIn_of _ (by decide +kernel)) ggX7_foldingAt_X7_fits
theorem dX7_foldingAt_0 : decode cX7_foldingAt 0 = .ok (.iconst 0, 1) := by decide +kernel
theorem dX7_foldingAt_1 : decode cX7_foldingAt 1 = .ok (.istore_n 2, 1) := by decide +kernel
theorem dX7_foldingAt_2 : decode cX7_foldingAt 2 = .ok (.iconst 0, 1) := by decide +kernel
theorem dX7_foldingAt_3 : decode cX7_foldingAt 3 = .ok (.istore_n 3, 1) := by decide +kernel
theorem dX7_foldingAt_4 : decode cX7_foldingAt 4 = .ok (.iload_n 3, 1) := by decide +kernel
theorem dX7_foldingAt_5 : decode cX7_foldingAt 5 = .ok (.sipush 512, 3) := by decide +kernel
theorem dX7_foldingAt_8 : decode cX7_foldingAt 8 = .ok (.if_icmp .ge 27, 3) := by decide +kernel
theorem dX7_foldingAt_11 : decode cX7_foldingAt 11 = .ok (.aload_n 0, 1) := by decide +kernel
theorem dX7_foldingAt_12 : decode cX7_foldingAt 12 = .ok (.iload_n 3, 1) := by decide +kernel
theorem dX7_foldingAt_13 : decode cX7_foldingAt 13 = .ok (.invokevirtual 48, 3) := by decide +kernel
theorem dX7_foldingAt_16 : decode cX7_foldingAt 16 = .ok (.ifCond .eq 13, 3) := by decide +kernel
theorem dX7_foldingAt_19 : decode cX7_foldingAt 19 = .ok (.iload_n 2, 1) := by decide +kernel
theorem dX7_foldingAt_20 : decode cX7_foldingAt 20 = .ok (.iload_n 1, 1) := by decide +kernel
theorem dX7_foldingAt_21 : decode cX7_foldingAt 21 = .ok (.if_icmp .ne 5, 3) := by decide +kernel
theorem dX7_foldingAt_24 : decode cX7_foldingAt 24 = .ok (.iload_n 3, 1) := by decide +kernel
theorem dX7_foldingAt_25 : decode cX7_foldingAt 25 = .ok (.ireturn, 1) := by decide +kernel
theorem dX7_foldingAt_26 : decode cX7_foldingAt 26 = .ok (.iinc 2 1, 3) := by decide +kernel
theorem dX7_foldingAt_29 : decode cX7_foldingAt 29 = .ok (.iinc 3 1, 3) := by decide +kernel
theorem dX7_foldingAt_32 : decode cX7_foldingAt 32 = .ok (.goto (-28), 3) := by decide +kernel
theorem dX7_foldingAt_35 : decode cX7_foldingAt 35 = .ok (.iconst (-1), 1) := by decide +kernel
theorem dX7_foldingAt_36 : decode cX7_foldingAt 36 = .ok (.ireturn, 1) := by decide +kernel
set_option maxRecDepth 20000 in
theorem ggX7_folding_X7_holds : GoodIn wsX7_folding wsX7_holds := goodIn_r _ [5, 6, 25, 26, 27, 28, 29, 30, 31, 32, 33, 34] (by decide +kernel) (by decide +kernel)
set_option maxRecDepth 20000 in
theorem gX7_folding_X7_holds : GoodIn wsX7_folding (wsV RX7 59 RX7 yX7_holds wsX7_holds) := goodIn_app (goodIn_of _ (by decide +kernel)) ggX7_folding_X7_holds
set_option maxRecDepth 20000 in
theorem ggX7_folding_X7_foldingAt : GoodIn wsX7_folding wsX7_foldingAt := goodIn_r _ [10, 11, 12, 13, 4, 14, 15, 16, 17, 18, 19, 20, 21, 22, 23, 24, 25, 26, 27, 28, 29, 30, 31, 32, 33, 34] (by decide +kernel) (by decide +kernel)
set_option maxRecDepth 20000 in
theorem gX7_folding_X7_foldingAt : GoodIn wsX7_folding (wsV RX7 134 RX7 yX7_foldingAt wsX7_foldingAt) := goodIn_app (goodIn_of _ (by decide +kernel)) ggX7_folding_X7_foldingAt
theorem dX7_folding_0 : decode cX7_folding 0 = .ok (.aload_n 0, 1) := by decide +kernel
theorem dX7_folding_1 : decode cX7_folding 1 = .ok (.iload_n 1, 1) := by decide +kernel
theorem dX7_folding_2 : decode cX7_folding 2 = .ok (.ifCond .lt 7, 3) := by decide +kernel
theorem dX7_folding_5 : decode cX7_folding 5 = .ok (.iconst 0, 1) := by decide +kernel
theorem dX7_folding_6 : decode cX7_folding 6 = .ok (.goto 4, 3) := by decide +kernel
theorem dX7_folding_9 : decode cX7_folding 9 = .ok (.iconst 1, 1) := by decide +kernel
theorem dX7_folding_10 : decode cX7_folding 10 = .ok (.invokevirtual 59, 3) := by decide +kernel
theorem dX7_folding_13 : decode cX7_folding 13 = .ok (.ifCond .eq 11, 3) := by decide +kernel
theorem dX7_folding_16 : decode cX7_folding 16 = .ok (.aload_n 0, 1) := by decide +kernel
theorem dX7_folding_17 : decode cX7_folding 17 = .ok (.iload_n 1, 1) := by decide +kernel
theorem dX7_folding_18 : decode cX7_folding 18 = .ok (.invokevirtual 134, 3) := by decide +kernel
theorem dX7_folding_21 : decode cX7_folding 21 = .ok (.goto 4, 3) := by decide +kernel
theorem dX7_folding_24 : decode cX7_folding 24 = .ok (.iconst 0, 1) := by decide +kernel
theorem dX7_folding_25 : decode cX7_folding 25 = .ok (.ireturn, 1) := by decide +kernel
theorem dX7_weakestOne_0 : decode cX7_weakestOne 0 = .ok (.iconst (-1), 1) := by decide +kernel
theorem dX7_weakestOne_1 : decode cX7_weakestOne 1 = .ok (.istore_n 1, 1) := by decide +kernel
theorem dX7_weakestOne_2 : decode cX7_weakestOne 2 = .ok (.bipush 8, 2) := by decide +kernel
theorem dX7_weakestOne_4 : decode cX7_weakestOne 4 = .ok (.istore_n 2, 1) := by decide +kernel
theorem dX7_weakestOne_5 : decode cX7_weakestOne 5 = .ok (.iload_n 2, 1) := by decide +kernel
theorem dX7_weakestOne_6 : decode cX7_weakestOne 6 = .ok (.ifCond .lt 53, 3) := by decide +kernel
theorem dX7_weakestOne_9 : decode cX7_weakestOne 9 = .ok (.aload_n 0, 1) := by decide +kernel
theorem dX7_weakestOne_10 : decode cX7_weakestOne 10 = .ok (.getfield 7, 3) := by decide +kernel
theorem dX7_weakestOne_13 : decode cX7_weakestOne 13 = .ok (.iconst 0, 1) := by decide +kernel
theorem dX7_weakestOne_14 : decode cX7_weakestOne 14 = .ok (.iaload, 1) := by decide +kernel
theorem dX7_weakestOne_15 : decode cX7_weakestOne 15 = .ok (.iload_n 2, 1) := by decide +kernel
theorem dX7_weakestOne_16 : decode cX7_weakestOne 16 = .ok (.ishr, 1) := by decide +kernel
theorem dX7_weakestOne_17 : decode cX7_weakestOne 17 = .ok (.iconst 1, 1) := by decide +kernel
theorem dX7_weakestOne_18 : decode cX7_weakestOne 18 = .ok (.iand, 1) := by decide +kernel
theorem dX7_weakestOne_19 : decode cX7_weakestOne 19 = .ok (.iconst 1, 1) := by decide +kernel
theorem dX7_weakestOne_20 : decode cX7_weakestOne 20 = .ok (.if_icmp .ne 31, 3) := by decide +kernel
theorem dX7_weakestOne_23 : decode cX7_weakestOne 23 = .ok (.iload_n 1, 1) := by decide +kernel
theorem dX7_weakestOne_24 : decode cX7_weakestOne 24 = .ok (.iconst (-1), 1) := by decide +kernel
theorem dX7_weakestOne_25 : decode cX7_weakestOne 25 = .ok (.if_icmp .eq 22, 3) := by decide +kernel
theorem dX7_weakestOne_28 : decode cX7_weakestOne 28 = .ok (.aload_n 0, 1) := by decide +kernel
theorem dX7_weakestOne_29 : decode cX7_weakestOne 29 = .ok (.getfield 7, 3) := by decide +kernel
theorem dX7_weakestOne_32 : decode cX7_weakestOne 32 = .ok (.iconst 2, 1) := by decide +kernel
theorem dX7_weakestOne_33 : decode cX7_weakestOne 33 = .ok (.iload_n 2, 1) := by decide +kernel
theorem dX7_weakestOne_34 : decode cX7_weakestOne 34 = .ok (.iadd, 1) := by decide +kernel
theorem dX7_weakestOne_35 : decode cX7_weakestOne 35 = .ok (.iaload, 1) := by decide +kernel
theorem dX7_weakestOne_36 : decode cX7_weakestOne 36 = .ok (.aload_n 0, 1) := by decide +kernel
theorem dX7_weakestOne_37 : decode cX7_weakestOne 37 = .ok (.getfield 7, 3) := by decide +kernel
theorem dX7_weakestOne_40 : decode cX7_weakestOne 40 = .ok (.iconst 2, 1) := by decide +kernel
theorem dX7_weakestOne_41 : decode cX7_weakestOne 41 = .ok (.iload_n 1, 1) := by decide +kernel
theorem dX7_weakestOne_42 : decode cX7_weakestOne 42 = .ok (.iadd, 1) := by decide +kernel
theorem dX7_weakestOne_43 : decode cX7_weakestOne 43 = .ok (.iaload, 1) := by decide +kernel
theorem dX7_weakestOne_44 : decode cX7_weakestOne 44 = .ok (.if_icmp .lt 7, 3) := by decide +kernel
theorem dX7_weakestOne_47 : decode cX7_weakestOne 47 = .ok (.iload_n 2, 1) := by decide +kernel
theorem dX7_weakestOne_48 : decode cX7_weakestOne 48 = .ok (.goto 4, 3) := by decide +kernel
theorem dX7_weakestOne_51 : decode cX7_weakestOne 51 = .ok (.iload_n 1, 1) := by decide +kernel
theorem dX7_weakestOne_52 : decode cX7_weakestOne 52 = .ok (.istore_n 1, 1) := by decide +kernel
theorem dX7_weakestOne_53 : decode cX7_weakestOne 53 = .ok (.iinc 2 (-1), 3) := by decide +kernel
theorem dX7_weakestOne_56 : decode cX7_weakestOne 56 = .ok (.goto (-51), 3) := by decide +kernel
theorem dX7_weakestOne_59 : decode cX7_weakestOne 59 = .ok (.iload_n 1, 1) := by decide +kernel
theorem dX7_weakestOne_60 : decode cX7_weakestOne 60 = .ok (.ireturn, 1) := by decide +kernel
set_option maxRecDepth 20000 in
theorem ggX7_weakest_X7_weakestOne : GoodIn wsX7_weakest wsX7_weakestOne := goodIn_r _ [6, 7, 8, 9, 10, 11, 12, 13, 14, 15, 16, 17] (by decide +kernel) (by decide +kernel)
set_option maxRecDepth 20000 in
theorem gX7_weakest_X7_weakestOne : GoodIn wsX7_weakest (wsV RX7 137 RX7 yX7_weakestOne wsX7_weakestOne) := goodIn_app (goodIn_of _ (by decide +kernel)) ggX7_weakest_X7_weakestOne
theorem dX7_weakest_0 : decode cX7_weakest 0 = .ok (.aload_n 0, 1) := by decide +kernel
theorem dX7_weakest_1 : decode cX7_weakest 1 = .ok (.iconst 0, 1) := by decide +kernel
theorem dX7_weakest_2 : decode cX7_weakest 2 = .ok (.putfield 29, 3) := by decide +kernel
theorem dX7_weakest_5 : decode cX7_weakest 5 = .ok (.aload_n 0, 1) := by decide +kernel
theorem dX7_weakest_6 : decode cX7_weakest 6 = .ok (.invokevirtual 137, 3) := by decide +kernel
theorem dX7_weakest_9 : decode cX7_weakest 9 = .ok (.ireturn, 1) := by decide +kernel
set_option maxRecDepth 20000 in
theorem ggX7_share_X7_fitting : GoodIn wsX7_share wsX7_fitting := goodIn_r _ [5, 6, 7, 8, 4, 9, 10, 11, 12, 13, 14, 15, 16, 17, 18, 19, 20, 21, 22, 23, 24, 25, 26, 27, 28, 29] (by decide +kernel) (by decide +kernel)
set_option maxRecDepth 20000 in
theorem gX7_share_X7_fitting : GoodIn wsX7_share (wsV RX7 122 RX7 yX7_fitting wsX7_fitting) := goodIn_app (goodIn_of _ (by decide +kernel)) ggX7_share_X7_fitting
theorem dX7_share_0 : decode cX7_share 0 = .ok (.aload_n 0, 1) := by decide +kernel
theorem dX7_share_1 : decode cX7_share 1 = .ok (.invokevirtual 122, 3) := by decide +kernel
theorem dX7_share_4 : decode cX7_share 4 = .ok (.istore_n 1, 1) := by decide +kernel
theorem dX7_share_5 : decode cX7_share 5 = .ok (.iload_n 1, 1) := by decide +kernel
theorem dX7_share_6 : decode cX7_share 6 = .ok (.ifCond .ne 7, 3) := by decide +kernel
theorem dX7_share_9 : decode cX7_share 9 = .ok (.dconst 0, 1) := by decide +kernel
theorem dX7_share_10 : decode cX7_share 10 = .ok (.goto 7, 3) := by decide +kernel
theorem dX7_share_13 : decode cX7_share 13 = .ok (.dconst 1, 1) := by decide +kernel
theorem dX7_share_14 : decode cX7_share 14 = .ok (.iload_n 1, 1) := by decide +kernel
theorem dX7_share_15 : decode cX7_share 15 = .ok (.i2d, 1) := by decide +kernel
theorem dX7_share_16 : decode cX7_share 16 = .ok (.ddiv, 1) := by decide +kernel
theorem dX7_share_17 : decode cX7_share 17 = .ok (.dreturn, 1) := by decide +kernel
set_option maxRecDepth 20000 in
theorem ggX7_sureShare_X7_share : GoodIn wsX7_sureShare wsX7_share := goodIn_r _ [6, 7, 8, 9, 5, 10, 11, 12, 13, 14, 15, 16, 17, 18, 19, 20, 21, 22, 23, 24, 25, 26, 27, 28, 29, 30, 31, 32, 33, 34] (by decide +kernel) (by decide +kernel)
set_option maxRecDepth 20000 in
theorem gX7_sureShare_X7_share : GoodIn wsX7_sureShare (wsV RX7 140 RX7 yX7_share wsX7_share) := goodIn_app (goodIn_of _ (by decide +kernel)) ggX7_sureShare_X7_share
theorem dX7_sureShare_0 : decode cX7_sureShare 0 = .ok (.aload_n 0, 1) := by decide +kernel
theorem dX7_sureShare_1 : decode cX7_sureShare 1 = .ok (.iconst 0, 1) := by decide +kernel
theorem dX7_sureShare_2 : decode cX7_sureShare 2 = .ok (.putfield 29, 3) := by decide +kernel
theorem dX7_sureShare_5 : decode cX7_sureShare 5 = .ok (.aload_n 0, 1) := by decide +kernel
theorem dX7_sureShare_6 : decode cX7_sureShare 6 = .ok (.invokevirtual 140, 3) := by decide +kernel
theorem dX7_sureShare_9 : decode cX7_sureShare 9 = .ok (.dreturn, 1) := by decide +kernel
theorem dX7_bitsOf_0 : decode cX7_bitsOf 0 = .ok (.dload_n 0, 1) := by decide +kernel
theorem dX7_bitsOf_1 : decode cX7_bitsOf 1 = .ok (.dconst 0, 1) := by decide +kernel
theorem dX7_bitsOf_2 : decode cX7_bitsOf 2 = .ok (.dcmp .l, 1) := by decide +kernel
theorem dX7_bitsOf_3 : decode cX7_bitsOf 3 = .ok (.ifCond .ne 5, 3) := by decide +kernel
theorem dX7_bitsOf_6 : decode cX7_bitsOf 6 = .ok (.lconst 0, 1) := by decide +kernel
theorem dX7_bitsOf_7 : decode cX7_bitsOf 7 = .ok (.lreturn, 1) := by decide +kernel
theorem dX7_bitsOf_8 : decode cX7_bitsOf 8 = .ok (.ldc2_w 144, 3) := by decide +kernel
theorem dX7_bitsOf_11 : decode cX7_bitsOf 11 = .ok (.lstore_n 2, 1) := by decide +kernel
theorem dX7_bitsOf_12 : decode cX7_bitsOf 12 = .ok (.dload_n 0, 1) := by decide +kernel
theorem dX7_bitsOf_13 : decode cX7_bitsOf 13 = .ok (.dstore 4, 2) := by decide +kernel
theorem dX7_bitsOf_15 : decode cX7_bitsOf 15 = .ok (.dload 4, 2) := by decide +kernel
theorem dX7_bitsOf_17 : decode cX7_bitsOf 17 = .ok (.dconst 1, 1) := by decide +kernel
theorem dX7_bitsOf_18 : decode cX7_bitsOf 18 = .ok (.dcmp .g, 1) := by decide +kernel
theorem dX7_bitsOf_19 : decode cX7_bitsOf 19 = .ok (.ifCond .ge 18, 3) := by decide +kernel
theorem dX7_bitsOf_22 : decode cX7_bitsOf 22 = .ok (.dload 4, 2) := by decide +kernel
theorem dX7_bitsOf_24 : decode cX7_bitsOf 24 = .ok (.ldc2_w 146, 3) := by decide +kernel
theorem dX7_bitsOf_27 : decode cX7_bitsOf 27 = .ok (.dmul, 1) := by decide +kernel
theorem dX7_bitsOf_28 : decode cX7_bitsOf 28 = .ok (.dstore 4, 2) := by decide +kernel
theorem dX7_bitsOf_30 : decode cX7_bitsOf 30 = .ok (.lload_n 2, 1) := by decide +kernel
theorem dX7_bitsOf_31 : decode cX7_bitsOf 31 = .ok (.lconst 1, 1) := by decide +kernel
theorem dX7_bitsOf_32 : decode cX7_bitsOf 32 = .ok (.lsub, 1) := by decide +kernel
theorem dX7_bitsOf_33 : decode cX7_bitsOf 33 = .ok (.lstore_n 2, 1) := by decide +kernel
theorem dX7_bitsOf_34 : decode cX7_bitsOf 34 = .ok (.goto (-19), 3) := by decide +kernel
theorem dX7_bitsOf_37 : decode cX7_bitsOf 37 = .ok (.lload_n 2, 1) := by decide +kernel
theorem dX7_bitsOf_38 : decode cX7_bitsOf 38 = .ok (.ldc2_w 148, 3) := by decide +kernel
theorem dX7_bitsOf_41 : decode cX7_bitsOf 41 = .ok (.lmul, 1) := by decide +kernel
theorem dX7_bitsOf_42 : decode cX7_bitsOf 42 = .ok (.dload 4, 2) := by decide +kernel
theorem dX7_bitsOf_44 : decode cX7_bitsOf 44 = .ok (.dconst 1, 1) := by decide +kernel
theorem dX7_bitsOf_45 : decode cX7_bitsOf 45 = .ok (.dsub, 1) := by decide +kernel
theorem dX7_bitsOf_46 : decode cX7_bitsOf 46 = .ok (.ldc2_w 150, 3) := by decide +kernel
theorem dX7_bitsOf_49 : decode cX7_bitsOf 49 = .ok (.dmul, 1) := by decide +kernel
theorem dX7_bitsOf_50 : decode cX7_bitsOf 50 = .ok (.d2l, 1) := by decide +kernel
theorem dX7_bitsOf_51 : decode cX7_bitsOf 51 = .ok (.ladd, 1) := by decide +kernel
theorem dX7_bitsOf_52 : decode cX7_bitsOf 52 = .ok (.lreturn, 1) := by decide +kernel
theorem dX7_digestOne_0 : decode cX7_digestOne 0 = .ok (.aload_n 0, 1) := by decide +kernel
theorem dX7_digestOne_1 : decode cX7_digestOne 1 = .ok (.ldc2_w 152, 3) := by decide +kernel
theorem dX7_digestOne_4 : decode cX7_digestOne 4 = .ok (.aload_n 0, 1) := by decide +kernel
theorem dX7_digestOne_5 : decode cX7_digestOne 5 = .ok (.getfield 154, 3) := by decide +kernel
theorem dX7_digestOne_8 : decode cX7_digestOne 8 = .ok (.lmul, 1) := by decide +kernel
theorem dX7_digestOne_9 : decode cX7_digestOne 9 = .ok (.lload_n 1, 1) := by decide +kernel
theorem dX7_digestOne_10 : decode cX7_digestOne 10 = .ok (.ladd, 1) := by decide +kernel
theorem dX7_digestOne_11 : decode cX7_digestOne 11 = .ok (.putfield 154, 3) := by decide +kernel
theorem dX7_digestOne_14 : decode cX7_digestOne 14 = .ok (.return_, 1) := by decide +kernel
set_option maxRecDepth 20000 in
theorem ggX7_digestTown_X7_digestOne : GoodIn wsX7_digestTown wsX7_digestOne := goodIn_r _ [6, 7, 8, 29, 30, 31, 32, 33, 34, 35, 36, 37, 38] (by decide +kernel) (by decide +kernel)
set_option maxRecDepth 20000 in
theorem gX7_digestTown_X7_digestOne : GoodIn wsX7_digestTown (wsV RX7 158 RX7 yX7_digestOne wsX7_digestOne) := goodIn_app (goodIn_of _ (by decide +kernel)) ggX7_digestTown_X7_digestOne
set_option maxRecDepth 20000 in
theorem ggX7_digestTown_X7_ofBoth : GoodIn wsX7_digestTown wsX7_ofBoth := goodIn_r _ [12, 1, 13, 14, 15, 16, 5, 17, 18, 19, 20, 21, 22, 23, 24, 25, 26, 27, 28, 29, 30, 31, 32, 33, 34, 35, 36, 37, 38] (by decide +kernel) (by decide +kernel)
set_option maxRecDepth 20000 in
theorem gX7_digestTown_X7_ofBoth : GoodIn wsX7_digestTown (wsV RX7 115 RX7 yX7_ofBoth wsX7_ofBoth) := goodIn_app (goodIn_of _ (by decide +kernel)) ggX7_digestTown_X7_ofBoth
theorem dX7_digestTown_0 : decode cX7_digestTown 0 = .ok (.aload_n 0, 1) := by decide +kernel
theorem dX7_digestTown_1 : decode cX7_digestTown 1 = .ok (.aload_n 0, 1) := by decide +kernel
theorem dX7_digestTown_2 : decode cX7_digestTown 2 = .ok (.getfield 7, 3) := by decide +kernel
theorem dX7_digestTown_5 : decode cX7_digestTown 5 = .ok (.bipush 11, 2) := by decide +kernel
theorem dX7_digestTown_7 : decode cX7_digestTown 7 = .ok (.iload_n 1, 1) := by decide +kernel
theorem dX7_digestTown_8 : decode cX7_digestTown 8 = .ok (.iadd, 1) := by decide +kernel
theorem dX7_digestTown_9 : decode cX7_digestTown 9 = .ok (.iaload, 1) := by decide +kernel
theorem dX7_digestTown_10 : decode cX7_digestTown 10 = .ok (.i2l, 1) := by decide +kernel
theorem dX7_digestTown_11 : decode cX7_digestTown 11 = .ok (.invokevirtual 158, 3) := by decide +kernel
theorem dX7_digestTown_14 : decode cX7_digestTown 14 = .ok (.iload_n 1, 1) := by decide +kernel
theorem dX7_digestTown_15 : decode cX7_digestTown 15 = .ok (.iconst 1, 1) := by decide +kernel
theorem dX7_digestTown_16 : decode cX7_digestTown 16 = .ok (.iadd, 1) := by decide +kernel
theorem dX7_digestTown_17 : decode cX7_digestTown 17 = .ok (.istore_n 2, 1) := by decide +kernel
theorem dX7_digestTown_18 : decode cX7_digestTown 18 = .ok (.iload_n 2, 1) := by decide +kernel
theorem dX7_digestTown_19 : decode cX7_digestTown 19 = .ok (.bipush 6, 2) := by decide +kernel
theorem dX7_digestTown_21 : decode cX7_digestTown 21 = .ok (.if_icmp .ge 34, 3) := by decide +kernel
theorem dX7_digestTown_24 : decode cX7_digestTown 24 = .ok (.iconst 0, 1) := by decide +kernel
theorem dX7_digestTown_25 : decode cX7_digestTown 25 = .ok (.istore_n 3, 1) := by decide +kernel
theorem dX7_digestTown_26 : decode cX7_digestTown 26 = .ok (.iload_n 3, 1) := by decide +kernel
theorem dX7_digestTown_27 : decode cX7_digestTown 27 = .ok (.iconst 4, 1) := by decide +kernel
theorem dX7_digestTown_28 : decode cX7_digestTown 28 = .ok (.if_icmp .ge 21, 3) := by decide +kernel
theorem dX7_digestTown_31 : decode cX7_digestTown 31 = .ok (.aload_n 0, 1) := by decide +kernel
theorem dX7_digestTown_32 : decode cX7_digestTown 32 = .ok (.aload_n 0, 1) := by decide +kernel
theorem dX7_digestTown_33 : decode cX7_digestTown 33 = .ok (.iload_n 1, 1) := by decide +kernel
theorem dX7_digestTown_34 : decode cX7_digestTown 34 = .ok (.iload_n 2, 1) := by decide +kernel
theorem dX7_digestTown_35 : decode cX7_digestTown 35 = .ok (.iload_n 3, 1) := by decide +kernel
theorem dX7_digestTown_36 : decode cX7_digestTown 36 = .ok (.invokevirtual 115, 3) := by decide +kernel
theorem dX7_digestTown_39 : decode cX7_digestTown 39 = .ok (.i2l, 1) := by decide +kernel
theorem dX7_digestTown_40 : decode cX7_digestTown 40 = .ok (.invokevirtual 158, 3) := by decide +kernel
theorem dX7_digestTown_43 : decode cX7_digestTown 43 = .ok (.iinc 3 1, 3) := by decide +kernel
theorem dX7_digestTown_46 : decode cX7_digestTown 46 = .ok (.goto (-20), 3) := by decide +kernel
theorem dX7_digestTown_49 : decode cX7_digestTown 49 = .ok (.iinc 2 1, 3) := by decide +kernel
theorem dX7_digestTown_52 : decode cX7_digestTown 52 = .ok (.goto (-34), 3) := by decide +kernel
theorem dX7_digestTown_55 : decode cX7_digestTown 55 = .ok (.return_, 1) := by decide +kernel
set_option maxRecDepth 20000 in
theorem ggX7_digest_X7_counted : GoodIn wsX7_digest wsX7_counted := goodIn_r _ [11, 12, 13, 14, 15, 10, 16, 17, 18, 19, 20, 21, 22, 23, 24, 25, 26, 27, 28, 29, 30, 31, 32, 33, 34, 35, 36, 37, 97, 98, 99, 100, 101, 102, 103, 104, 105, 106] (by decide +kernel) (by decide +kernel)
set_option maxRecDepth 20000 in
theorem gX7_digest_X7_counted : GoodIn wsX7_digest (wsV RX7 125 RX7 yX7_counted wsX7_counted) := goodIn_app (goodIn_of _ (by decide +kernel)) ggX7_digest_X7_counted
set_option maxRecDepth 20000 in
theorem ggX7_digest_X7_digestOne : GoodIn wsX7_digest wsX7_digestOne := goodIn_r _ [41, 42, 3, 97, 98, 99, 100, 101, 102, 103, 104, 105, 106] (by decide +kernel) (by decide +kernel)
set_option maxRecDepth 20000 in
theorem gX7_digest_X7_digestOne : GoodIn wsX7_digest (wsV RX7 158 RX7 yX7_digestOne wsX7_digestOne) := goodIn_app (goodIn_of _ (by decide +kernel)) ggX7_digest_X7_digestOne
set_option maxRecDepth 20000 in
theorem ggX7_digest_X7_ofPanel : GoodIn wsX7_digest wsX7_ofPanel := goodIn_r _ [46, 12, 21, 22, 23, 24, 10, 25, 97, 98, 99, 100, 101, 102, 103, 104, 105, 106] (by decide +kernel) (by decide +kernel)
set_option maxRecDepth 20000 in
theorem gX7_digest_X7_ofPanel : GoodIn wsX7_digest (wsV RX7 103 RX7 yX7_ofPanel wsX7_ofPanel) := goodIn_app (goodIn_of _ (by decide +kernel)) ggX7_digest_X7_ofPanel
set_option maxRecDepth 20000 in
theorem ggX7_digest_X7_ofCrease : GoodIn wsX7_digest wsX7_ofCrease := goodIn_r _ [50, 12, 51, 52, 53, 10, 54, 30, 31, 32, 33, 21, 22, 23, 24, 25, 34, 35, 36, 37, 97, 98, 99, 100, 101, 102, 103, 104, 105, 106] (by decide +kernel) (by decide +kernel)
set_option maxRecDepth 20000 in
theorem gX7_digest_X7_ofCrease : GoodIn wsX7_digest (wsV RX7 109 RX7 yX7_ofCrease wsX7_ofCrease) := goodIn_app (goodIn_of _ (by decide +kernel)) ggX7_digest_X7_ofCrease
set_option maxRecDepth 20000 in
theorem ggX7_digest_X7_digestTown : GoodIn wsX7_digest wsX7_digestTown := goodIn_r _ [58, 12, 38, 39, 40, 10, 41, 42, 3, 59, 60, 61, 62, 21, 22, 23, 24, 25, 63, 64, 65, 66, 67, 68, 69, 34, 35, 36, 37, 97, 98, 99, 100, 101, 102, 103, 104, 105, 106] (by decide +kernel) (by decide +kernel)
set_option maxRecDepth 20000 in
theorem gX7_digest_X7_digestTown : GoodIn wsX7_digest (wsV RX7 164 RX7 yX7_digestTown wsX7_digestTown) := goodIn_app (goodIn_of _ (by decide +kernel)) ggX7_digest_X7_digestTown
set_option maxRecDepth 20000 in
theorem ggX7_digest_X7_question : GoodIn wsX7_digest wsX7_question := goodIn_r _ [73, 12, 26, 27, 28, 10, 29, 30, 31, 32, 33, 21, 22, 23, 24, 25, 34, 35, 36, 37, 66, 67, 68, 69, 74, 75, 76, 77, 97, 98, 99, 100, 101, 102, 103, 104, 105, 106] (by decide +kernel) (by decide +kernel)
set_option maxRecDepth 20000 in
theorem gX7_digest_X7_question : GoodIn wsX7_digest (wsV RX7 131 RX7 yX7_question wsX7_question) := goodIn_app (goodIn_of _ (by decide +kernel)) ggX7_digest_X7_question
set_option maxRecDepth 20000 in
theorem ggX7_digest_X7_foldingAt : GoodIn wsX7_digest wsX7_foldingAt := goodIn_r _ [81, 30, 31, 32, 10, 33, 12, 21, 22, 23, 24, 25, 34, 35, 36, 37, 97, 98, 99, 100, 101, 102, 103, 104, 105, 106] (by decide +kernel) (by decide +kernel)
set_option maxRecDepth 20000 in
theorem gX7_digest_X7_foldingAt : GoodIn wsX7_digest (wsV RX7 134 RX7 yX7_foldingAt wsX7_foldingAt) := goodIn_app (goodIn_of _ (by decide +kernel)) ggX7_digest_X7_foldingAt
set_option maxRecDepth 20000 in
theorem ggX7_digest_X7_weakestOne : GoodIn wsX7_digest wsX7_weakestOne := goodIn_r _ [85, 12, 97, 98, 99, 100, 101, 102, 103, 104, 105, 106] (by decide +kernel) (by decide +kernel)
set_option maxRecDepth 20000 in
theorem gX7_digest_X7_weakestOne : GoodIn wsX7_digest (wsV RX7 137 RX7 yX7_weakestOne wsX7_weakestOne) := goodIn_app (goodIn_of _ (by decide +kernel)) ggX7_digest_X7_weakestOne
set_option maxRecDepth 20000 in
theorem ggX7_digest_X7_share : GoodIn wsX7_digest wsX7_share := goodIn_r _ [89, 26, 27, 28, 10, 29, 30, 31, 32, 33, 12, 21, 22, 23, 24, 25, 34, 35, 36, 37, 97, 98, 99, 100, 101, 102, 103, 104, 105, 106] (by decide +kernel) (by decide +kernel)
set_option maxRecDepth 20000 in
theorem gX7_digest_X7_share : GoodIn wsX7_digest (wsV RX7 140 RX7 yX7_share wsX7_share) := goodIn_app (goodIn_of _ (by decide +kernel)) ggX7_digest_X7_share
set_option maxRecDepth 20000 in
theorem ggX7_digest_X7_bitsOf : GoodIn wsX7_digest wsX7_bitsOf := goodIn_r _ [92, 93, 94, 95, 96] (by decide +kernel) (by decide +kernel)
set_option maxRecDepth 20000 in
theorem gX7_digest_X7_bitsOf : GoodIn wsX7_digest (va_wsS RX7 167 yX7_bitsOf wsX7_bitsOf) := goodIn_app (goodIn_of _ (by decide +kernel)) ggX7_digest_X7_bitsOf
theorem dX7_digest_0 : decode cX7_digest 0 = .ok (.aload_n 0, 1) := by decide +kernel
theorem dX7_digest_1 : decode cX7_digest 1 = .ok (.iconst 0, 1) := by decide +kernel
theorem dX7_digest_2 : decode cX7_digest 2 = .ok (.putfield 29, 3) := by decide +kernel
theorem dX7_digest_5 : decode cX7_digest 5 = .ok (.aload_n 0, 1) := by decide +kernel
theorem dX7_digest_6 : decode cX7_digest 6 = .ok (.ldc2_w 162, 3) := by decide +kernel
theorem dX7_digest_9 : decode cX7_digest 9 = .ok (.putfield 154, 3) := by decide +kernel
theorem dX7_digest_12 : decode cX7_digest 12 = .ok (.iconst 0, 1) := by decide +kernel
theorem dX7_digest_13 : decode cX7_digest 13 = .ok (.istore_n 1, 1) := by decide +kernel
theorem dX7_digest_14 : decode cX7_digest 14 = .ok (.iload_n 1, 1) := by decide +kernel
theorem dX7_digest_15 : decode cX7_digest 15 = .ok (.bipush 11, 2) := by decide +kernel
theorem dX7_digest_17 : decode cX7_digest 17 = .ok (.if_icmp .ge 19, 3) := by decide +kernel
theorem dX7_digest_20 : decode cX7_digest 20 = .ok (.aload_n 0, 1) := by decide +kernel
theorem dX7_digest_21 : decode cX7_digest 21 = .ok (.aload_n 0, 1) := by decide +kernel
theorem dX7_digest_22 : decode cX7_digest 22 = .ok (.iload_n 1, 1) := by decide +kernel
theorem dX7_digest_23 : decode cX7_digest 23 = .ok (.invokevirtual 125, 3) := by decide +kernel
theorem dX7_digest_26 : decode cX7_digest 26 = .ok (.i2l, 1) := by decide +kernel
theorem dX7_digest_27 : decode cX7_digest 27 = .ok (.invokevirtual 158, 3) := by decide +kernel
theorem dX7_digest_30 : decode cX7_digest 30 = .ok (.iinc 1 1, 3) := by decide +kernel
theorem dX7_digest_33 : decode cX7_digest 33 = .ok (.goto (-19), 3) := by decide +kernel
theorem dX7_digest_36 : decode cX7_digest 36 = .ok (.iconst 0, 1) := by decide +kernel
theorem dX7_digest_37 : decode cX7_digest 37 = .ok (.istore_n 1, 1) := by decide +kernel
theorem dX7_digest_38 : decode cX7_digest 38 = .ok (.iload_n 1, 1) := by decide +kernel
theorem dX7_digest_39 : decode cX7_digest 39 = .ok (.bipush 30, 2) := by decide +kernel
theorem dX7_digest_41 : decode cX7_digest 41 = .ok (.if_icmp .ge 24, 3) := by decide +kernel
theorem dX7_digest_44 : decode cX7_digest 44 = .ok (.aload_n 0, 1) := by decide +kernel
theorem dX7_digest_45 : decode cX7_digest 45 = .ok (.aload_n 0, 1) := by decide +kernel
theorem dX7_digest_46 : decode cX7_digest 46 = .ok (.iload_n 1, 1) := by decide +kernel
theorem dX7_digest_47 : decode cX7_digest 47 = .ok (.iconst 3, 1) := by decide +kernel
theorem dX7_digest_48 : decode cX7_digest 48 = .ok (.idiv, 1) := by decide +kernel
theorem dX7_digest_49 : decode cX7_digest 49 = .ok (.iload_n 1, 1) := by decide +kernel
theorem dX7_digest_50 : decode cX7_digest 50 = .ok (.iconst 3, 1) := by decide +kernel
theorem dX7_digest_51 : decode cX7_digest 51 = .ok (.irem, 1) := by decide +kernel
theorem dX7_digest_52 : decode cX7_digest 52 = .ok (.invokevirtual 103, 3) := by decide +kernel
theorem dX7_digest_55 : decode cX7_digest 55 = .ok (.i2l, 1) := by decide +kernel
theorem dX7_digest_56 : decode cX7_digest 56 = .ok (.invokevirtual 158, 3) := by decide +kernel
theorem dX7_digest_59 : decode cX7_digest 59 = .ok (.iinc 1 1, 3) := by decide +kernel
theorem dX7_digest_62 : decode cX7_digest 62 = .ok (.goto (-24), 3) := by decide +kernel
theorem dX7_digest_65 : decode cX7_digest 65 = .ok (.iconst 0, 1) := by decide +kernel
theorem dX7_digest_66 : decode cX7_digest 66 = .ok (.istore_n 1, 1) := by decide +kernel
theorem dX7_digest_67 : decode cX7_digest 67 = .ok (.iload_n 1, 1) := by decide +kernel
theorem dX7_digest_68 : decode cX7_digest 68 = .ok (.bipush 36, 2) := by decide +kernel
theorem dX7_digest_70 : decode cX7_digest 70 = .ok (.if_icmp .ge 24, 3) := by decide +kernel
theorem dX7_digest_73 : decode cX7_digest 73 = .ok (.aload_n 0, 1) := by decide +kernel
theorem dX7_digest_74 : decode cX7_digest 74 = .ok (.aload_n 0, 1) := by decide +kernel
theorem dX7_digest_75 : decode cX7_digest 75 = .ok (.iload_n 1, 1) := by decide +kernel
theorem dX7_digest_76 : decode cX7_digest 76 = .ok (.iconst 4, 1) := by decide +kernel
theorem dX7_digest_77 : decode cX7_digest 77 = .ok (.idiv, 1) := by decide +kernel
theorem dX7_digest_78 : decode cX7_digest 78 = .ok (.iload_n 1, 1) := by decide +kernel
theorem dX7_digest_79 : decode cX7_digest 79 = .ok (.iconst 4, 1) := by decide +kernel
theorem dX7_digest_80 : decode cX7_digest 80 = .ok (.irem, 1) := by decide +kernel
theorem dX7_digest_81 : decode cX7_digest 81 = .ok (.invokevirtual 109, 3) := by decide +kernel
theorem dX7_digest_84 : decode cX7_digest 84 = .ok (.i2l, 1) := by decide +kernel
theorem dX7_digest_85 : decode cX7_digest 85 = .ok (.invokevirtual 158, 3) := by decide +kernel
theorem dX7_digest_88 : decode cX7_digest 88 = .ok (.iinc 1 1, 3) := by decide +kernel
theorem dX7_digest_91 : decode cX7_digest 91 = .ok (.goto (-24), 3) := by decide +kernel
theorem dX7_digest_94 : decode cX7_digest 94 = .ok (.iconst 0, 1) := by decide +kernel
theorem dX7_digest_95 : decode cX7_digest 95 = .ok (.istore_n 1, 1) := by decide +kernel
theorem dX7_digest_96 : decode cX7_digest 96 = .ok (.iload_n 1, 1) := by decide +kernel
theorem dX7_digest_97 : decode cX7_digest 97 = .ok (.bipush 6, 2) := by decide +kernel
theorem dX7_digest_99 : decode cX7_digest 99 = .ok (.if_icmp .ge 14, 3) := by decide +kernel
theorem dX7_digest_102 : decode cX7_digest 102 = .ok (.aload_n 0, 1) := by decide +kernel
theorem dX7_digest_103 : decode cX7_digest 103 = .ok (.iload_n 1, 1) := by decide +kernel
theorem dX7_digest_104 : decode cX7_digest 104 = .ok (.invokevirtual 164, 3) := by decide +kernel
theorem dX7_digest_107 : decode cX7_digest 107 = .ok (.iinc 1 1, 3) := by decide +kernel
theorem dX7_digest_110 : decode cX7_digest 110 = .ok (.goto (-14), 3) := by decide +kernel
theorem dX7_digest_113 : decode cX7_digest 113 = .ok (.aload_n 0, 1) := by decide +kernel
theorem dX7_digest_114 : decode cX7_digest 114 = .ok (.aload_n 0, 1) := by decide +kernel
theorem dX7_digest_115 : decode cX7_digest 115 = .ok (.invokevirtual 131, 3) := by decide +kernel
theorem dX7_digest_118 : decode cX7_digest 118 = .ok (.i2l, 1) := by decide +kernel
theorem dX7_digest_119 : decode cX7_digest 119 = .ok (.invokevirtual 158, 3) := by decide +kernel
theorem dX7_digest_122 : decode cX7_digest 122 = .ok (.iconst 0, 1) := by decide +kernel
theorem dX7_digest_123 : decode cX7_digest 123 = .ok (.istore_n 1, 1) := by decide +kernel
theorem dX7_digest_124 : decode cX7_digest 124 = .ok (.iload_n 1, 1) := by decide +kernel
theorem dX7_digest_125 : decode cX7_digest 125 = .ok (.iconst 4, 1) := by decide +kernel
theorem dX7_digest_126 : decode cX7_digest 126 = .ok (.if_icmp .ge 19, 3) := by decide +kernel
theorem dX7_digest_129 : decode cX7_digest 129 = .ok (.aload_n 0, 1) := by decide +kernel
theorem dX7_digest_130 : decode cX7_digest 130 = .ok (.aload_n 0, 1) := by decide +kernel
theorem dX7_digest_131 : decode cX7_digest 131 = .ok (.iload_n 1, 1) := by decide +kernel
theorem dX7_digest_132 : decode cX7_digest 132 = .ok (.invokevirtual 134, 3) := by decide +kernel
theorem dX7_digest_135 : decode cX7_digest 135 = .ok (.i2l, 1) := by decide +kernel
theorem dX7_digest_136 : decode cX7_digest 136 = .ok (.invokevirtual 158, 3) := by decide +kernel
theorem dX7_digest_139 : decode cX7_digest 139 = .ok (.iinc 1 1, 3) := by decide +kernel
theorem dX7_digest_142 : decode cX7_digest 142 = .ok (.goto (-18), 3) := by decide +kernel
theorem dX7_digest_145 : decode cX7_digest 145 = .ok (.aload_n 0, 1) := by decide +kernel
theorem dX7_digest_146 : decode cX7_digest 146 = .ok (.aload_n 0, 1) := by decide +kernel
theorem dX7_digest_147 : decode cX7_digest 147 = .ok (.invokevirtual 137, 3) := by decide +kernel
theorem dX7_digest_150 : decode cX7_digest 150 = .ok (.i2l, 1) := by decide +kernel
theorem dX7_digest_151 : decode cX7_digest 151 = .ok (.invokevirtual 158, 3) := by decide +kernel
theorem dX7_digest_154 : decode cX7_digest 154 = .ok (.aload_n 0, 1) := by decide +kernel
theorem dX7_digest_155 : decode cX7_digest 155 = .ok (.aload_n 0, 1) := by decide +kernel
theorem dX7_digest_156 : decode cX7_digest 156 = .ok (.invokevirtual 140, 3) := by decide +kernel
theorem dX7_digest_159 : decode cX7_digest 159 = .ok (.invokestatic 167, 3) := by decide +kernel
theorem dX7_digest_162 : decode cX7_digest 162 = .ok (.invokevirtual 158, 3) := by decide +kernel
theorem dX7_digest_165 : decode cX7_digest 165 = .ok (.aload_n 0, 1) := by decide +kernel
theorem dX7_digest_166 : decode cX7_digest 166 = .ok (.aload_n 0, 1) := by decide +kernel
theorem dX7_digest_167 : decode cX7_digest 167 = .ok (.getfield 16, 3) := by decide +kernel
theorem dX7_digest_170 : decode cX7_digest 170 = .ok (.iconst 0, 1) := by decide +kernel
theorem dX7_digest_171 : decode cX7_digest 171 = .ok (.baload, 1) := by decide +kernel
theorem dX7_digest_172 : decode cX7_digest 172 = .ok (.ifCond .eq 7, 3) := by decide +kernel
theorem dX7_digest_175 : decode cX7_digest 175 = .ok (.lconst 1, 1) := by decide +kernel
theorem dX7_digest_176 : decode cX7_digest 176 = .ok (.goto 4, 3) := by decide +kernel
theorem dX7_digest_179 : decode cX7_digest 179 = .ok (.lconst 0, 1) := by decide +kernel
theorem dX7_digest_180 : decode cX7_digest 180 = .ok (.invokevirtual 158, 3) := by decide +kernel
theorem dX7_digest_183 : decode cX7_digest 183 = .ok (.aload_n 0, 1) := by decide +kernel
theorem dX7_digest_184 : decode cX7_digest 184 = .ok (.aload_n 0, 1) := by decide +kernel
theorem dX7_digest_185 : decode cX7_digest 185 = .ok (.getfield 16, 3) := by decide +kernel
theorem dX7_digest_188 : decode cX7_digest 188 = .ok (.iconst 1, 1) := by decide +kernel
theorem dX7_digest_189 : decode cX7_digest 189 = .ok (.baload, 1) := by decide +kernel
theorem dX7_digest_190 : decode cX7_digest 190 = .ok (.ifCond .eq 7, 3) := by decide +kernel
theorem dX7_digest_193 : decode cX7_digest 193 = .ok (.lconst 1, 1) := by decide +kernel
theorem dX7_digest_194 : decode cX7_digest 194 = .ok (.goto 4, 3) := by decide +kernel
theorem dX7_digest_197 : decode cX7_digest 197 = .ok (.lconst 0, 1) := by decide +kernel
theorem dX7_digest_198 : decode cX7_digest 198 = .ok (.invokevirtual 158, 3) := by decide +kernel
theorem dX7_digest_201 : decode cX7_digest 201 = .ok (.aload_n 0, 1) := by decide +kernel
theorem dX7_digest_202 : decode cX7_digest 202 = .ok (.aload_n 0, 1) := by decide +kernel
theorem dX7_digest_203 : decode cX7_digest 203 = .ok (.getfield 91, 3) := by decide +kernel
theorem dX7_digest_206 : decode cX7_digest 206 = .ok (.i2l, 1) := by decide +kernel
theorem dX7_digest_207 : decode cX7_digest 207 = .ok (.invokevirtual 158, 3) := by decide +kernel
theorem dX7_digest_210 : decode cX7_digest 210 = .ok (.iconst 0, 1) := by decide +kernel
theorem dX7_digest_211 : decode cX7_digest 211 = .ok (.istore_n 1, 1) := by decide +kernel
theorem dX7_digest_212 : decode cX7_digest 212 = .ok (.iload_n 1, 1) := by decide +kernel
theorem dX7_digest_213 : decode cX7_digest 213 = .ok (.aload_n 0, 1) := by decide +kernel
theorem dX7_digest_214 : decode cX7_digest 214 = .ok (.getfield 91, 3) := by decide +kernel
theorem dX7_digest_217 : decode cX7_digest 217 = .ok (.if_icmp .ge 20, 3) := by decide +kernel
theorem dX7_digest_220 : decode cX7_digest 220 = .ok (.aload_n 0, 1) := by decide +kernel
theorem dX7_digest_221 : decode cX7_digest 221 = .ok (.aload_n 0, 1) := by decide +kernel
theorem dX7_digest_222 : decode cX7_digest 222 = .ok (.getfield 23, 3) := by decide +kernel
theorem dX7_digest_225 : decode cX7_digest 225 = .ok (.iload_n 1, 1) := by decide +kernel
theorem dX7_digest_226 : decode cX7_digest 226 = .ok (.iaload, 1) := by decide +kernel
theorem dX7_digest_227 : decode cX7_digest 227 = .ok (.i2l, 1) := by decide +kernel
theorem dX7_digest_228 : decode cX7_digest 228 = .ok (.invokevirtual 158, 3) := by decide +kernel
theorem dX7_digest_231 : decode cX7_digest 231 = .ok (.iinc 1 1, 3) := by decide +kernel
theorem dX7_digest_234 : decode cX7_digest 234 = .ok (.goto (-22), 3) := by decide +kernel
theorem dX7_digest_237 : decode cX7_digest 237 = .ok (.aload_n 0, 1) := by decide +kernel
theorem dX7_digest_238 : decode cX7_digest 238 = .ok (.getfield 154, 3) := by decide +kernel
theorem dX7_digest_241 : decode cX7_digest 241 = .ok (.lreturn, 1) := by decide +kernel
