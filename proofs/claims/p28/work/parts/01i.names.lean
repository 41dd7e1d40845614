theorem dL_cell_0 : decode cL_cell 0 = .ok (.iload_n 1, 1) := by decide +kernel
theorem dL_cell_1 : decode cL_cell 1 = .ok (.aload_n 0, 1) := by decide +kernel
theorem dL_cell_2 : decode cL_cell 2 = .ok (.arraylength, 1) := by decide +kernel
theorem dL_cell_3 : decode cL_cell 3 = .ok (.if_icmp .ge 9, 3) := by decide +kernel
theorem dL_cell_6 : decode cL_cell 6 = .ok (.aload_n 0, 1) := by decide +kernel
theorem dL_cell_7 : decode cL_cell 7 = .ok (.iload_n 1, 1) := by decide +kernel
theorem dL_cell_8 : decode cL_cell 8 = .ok (.iaload, 1) := by decide +kernel
theorem dL_cell_9 : decode cL_cell 9 = .ok (.goto 11, 3) := by decide +kernel
theorem dL_cell_12 : decode cL_cell 12 = .ok (.ldc 7, 2) := by decide +kernel
theorem dL_cell_14 : decode cL_cell 14 = .ok (.iload_n 1, 1) := by decide +kernel
theorem dL_cell_15 : decode cL_cell 15 = .ok (.imul, 1) := by decide +kernel
theorem dL_cell_16 : decode cL_cell 16 = .ok (.sipush 977, 3) := by decide +kernel
theorem dL_cell_19 : decode cL_cell 19 = .ok (.iadd, 1) := by decide +kernel
theorem dL_cell_20 : decode cL_cell 20 = .ok (.ireturn, 1) := by decide +kernel
theorem dL_low_0 : decode cL_low 0 = .ok (.iload_n 0, 1) := by decide +kernel
theorem dL_low_1 : decode cL_low 1 = .ok (.ldc 8, 2) := by decide +kernel
theorem dL_low_3 : decode cL_low 3 = .ok (.iand, 1) := by decide +kernel
theorem dL_low_4 : decode cL_low 4 = .ok (.iload_n 1, 1) := by decide +kernel
theorem dL_low_5 : decode cL_low 5 = .ok (.irem, 1) := by decide +kernel
theorem dL_low_6 : decode cL_low 6 = .ok (.ireturn, 1) := by decide +kernel
set_option maxRecDepth 20000 in
theorem ggL_folded_X6_creaseOf : GoodIn wsL_folded wsX6_creaseOf := goodIn_ca (goodIn_ca (goodIn_r _ [5, 6, 7, 8, 9, 10, 11, 12, 4, 13, 14, 15, 16, 17, 18, 19, 20, 21, 22, 23, 24, 25, 26, 27, 28, 29, 30, 31, 32, 33, 34, 35, 36, 37, 38, 39, 40, 41, 42, 43, 44, 45, 46, 47, 48, 49, 50, 51, 52, 53, 54, 55, 56, 57, 58, 59, 60, 61, 62, 63, 64, 65, 66, 67, 68, 69, 70, 71, 72, 73, 74, 75, 76, 77, 78, 79, 80, 81] (by decide +kernel) (by decide +kernel)) (goodIn_sub (fun _ h => List.mem_cons_of_mem _ (List.mem_append_left _ (List.mem_append_right _ h))) (by decide +kernel))) (goodIn_sub (fun _ h => List.mem_cons_of_mem _ (List.mem_append_right _ h)) (by decide +kernel))
set_option maxRecDepth 20000 in
theorem gL_folded_X6_creaseOf : GoodIn wsL_folded (wsV RL 9 RX6 yX6_creaseOf wsX6_creaseOf) := goodIn_app (goodIn_of _ (by decide +kernel)) ggL_folded_X6_creaseOf
theorem dL_folded_0 : decode cL_folded 0 = .ok (.iconst 0, 1) := by decide +kernel
theorem dL_folded_1 : decode cL_folded 1 = .ok (.istore_n 1, 1) := by decide +kernel
theorem dL_folded_2 : decode cL_folded 2 = .ok (.iconst 0, 1) := by decide +kernel
theorem dL_folded_3 : decode cL_folded 3 = .ok (.istore_n 2, 1) := by decide +kernel
theorem dL_folded_4 : decode cL_folded 4 = .ok (.iload_n 2, 1) := by decide +kernel
theorem dL_folded_5 : decode cL_folded 5 = .ok (.bipush 9, 2) := by decide +kernel
theorem dL_folded_7 : decode cL_folded 7 = .ok (.if_icmp .ge 20, 3) := by decide +kernel
theorem dL_folded_10 : decode cL_folded 10 = .ok (.iload_n 1, 1) := by decide +kernel
theorem dL_folded_11 : decode cL_folded 11 = .ok (.aload_n 0, 1) := by decide +kernel
theorem dL_folded_12 : decode cL_folded 12 = .ok (.iload_n 2, 1) := by decide +kernel
theorem dL_folded_13 : decode cL_folded 13 = .ok (.iconst 0, 1) := by decide +kernel
theorem dL_folded_14 : decode cL_folded 14 = .ok (.invokevirtual 9, 3) := by decide +kernel
theorem dL_folded_17 : decode cL_folded 17 = .ok (.iload_n 2, 1) := by decide +kernel
theorem dL_folded_18 : decode cL_folded 18 = .ok (.ishl, 1) := by decide +kernel
theorem dL_folded_19 : decode cL_folded 19 = .ok (.ior, 1) := by decide +kernel
theorem dL_folded_20 : decode cL_folded 20 = .ok (.istore_n 1, 1) := by decide +kernel
theorem dL_folded_21 : decode cL_folded 21 = .ok (.iinc 2 1, 3) := by decide +kernel
theorem dL_folded_24 : decode cL_folded 24 = .ok (.goto (-20), 3) := by decide +kernel
theorem dL_folded_27 : decode cL_folded 27 = .ok (.iload_n 1, 1) := by decide +kernel
theorem dL_folded_28 : decode cL_folded 28 = .ok (.ireturn, 1) := by decide +kernel
theorem dL_bits_0 : decode cL_bits 0 = .ok (.iconst 0, 1) := by decide +kernel
theorem dL_bits_1 : decode cL_bits 1 = .ok (.istore_n 1, 1) := by decide +kernel
theorem dL_bits_2 : decode cL_bits 2 = .ok (.iconst 0, 1) := by decide +kernel
theorem dL_bits_3 : decode cL_bits 3 = .ok (.istore_n 2, 1) := by decide +kernel
theorem dL_bits_4 : decode cL_bits 4 = .ok (.iload_n 2, 1) := by decide +kernel
theorem dL_bits_5 : decode cL_bits 5 = .ok (.bipush 10, 2) := by decide +kernel
theorem dL_bits_7 : decode cL_bits 7 = .ok (.if_icmp .ge 17, 3) := by decide +kernel
theorem dL_bits_10 : decode cL_bits 10 = .ok (.iload_n 1, 1) := by decide +kernel
theorem dL_bits_11 : decode cL_bits 11 = .ok (.iload_n 0, 1) := by decide +kernel
theorem dL_bits_12 : decode cL_bits 12 = .ok (.iload_n 2, 1) := by decide +kernel
theorem dL_bits_13 : decode cL_bits 13 = .ok (.ishr, 1) := by decide +kernel
theorem dL_bits_14 : decode cL_bits 14 = .ok (.iconst 1, 1) := by decide +kernel
theorem dL_bits_15 : decode cL_bits 15 = .ok (.iand, 1) := by decide +kernel
theorem dL_bits_16 : decode cL_bits 16 = .ok (.iadd, 1) := by decide +kernel
theorem dL_bits_17 : decode cL_bits 17 = .ok (.istore_n 1, 1) := by decide +kernel
theorem dL_bits_18 : decode cL_bits 18 = .ok (.iinc 2 1, 3) := by decide +kernel
theorem dL_bits_21 : decode cL_bits 21 = .ok (.goto (-17), 3) := by decide +kernel
theorem dL_bits_24 : decode cL_bits 24 = .ok (.iload_n 1, 1) := by decide +kernel
theorem dL_bits_25 : decode cL_bits 25 = .ok (.ireturn, 1) := by decide +kernel
set_option maxRecDepth 20000 in
theorem ggL_change_L_low : GoodIn wsL_change wsL_low := goodIn_r _ [4, 5] (by decide +kernel) (by decide +kernel)
set_option maxRecDepth 20000 in
theorem gL_change_L_low : GoodIn wsL_change (va_wsS RL 15 yL_low wsL_low) := goodIn_app (goodIn_of _ (by decide +kernel)) ggL_change_L_low
set_option maxRecDepth 20000 in
theorem ggL_change_X6_count : GoodIn wsL_change wsX6_count := goodIn_ca (goodIn_r _ [10, 11, 12, 13, 14, 15, 16, 17, 18, 19, 20, 21, 22, 23, 24, 25, 9, 26, 27, 28, 29, 30, 31, 32, 33, 34, 35, 36, 37, 38, 39, 40, 41, 42, 43, 44, 45, 46, 47, 48, 49, 50, 51, 52, 53, 54, 55, 56, 57, 58, 59, 60, 61, 62, 63, 64, 65, 66, 67, 68, 69, 70, 71, 72, 73, 74, 75, 76, 77, 78, 79, 80, 81, 82, 83, 84, 85, 86, 87, 235, 236, 237, 238, 239, 240, 241, 242, 243, 244, 245, 246, 247, 248, 249, 250, 251, 252, 253, 254, 255, 256, 257] (by decide +kernel) (by decide +kernel)) (goodIn_sub (fun _ h => List.mem_cons_of_mem _ (List.mem_append_left _ (List.mem_append_right _ h))) (by decide +kernel))
set_option maxRecDepth 20000 in
theorem gL_change_X6_count : GoodIn wsL_change (wsV RL 20 RX6 yX6_count wsX6_count) := goodIn_app (goodIn_of _ (by decide +kernel)) ggL_change_X6_count
set_option maxRecDepth 20000 in
theorem ggL_change_X6_creaseOf : GoodIn wsL_change wsX6_creaseOf := goodIn_ca (goodIn_ca (goodIn_r _ [91, 11, 12, 92, 13, 16, 93, 94, 9, 95, 96, 97, 24, 25, 26, 27, 28, 85, 86, 87, 50, 51, 52, 53, 54, 55, 56, 57, 58, 59, 60, 61, 62, 63, 64, 65, 66, 67, 68, 69, 70, 38, 71, 40, 41, 42, 43, 72, 73, 74, 47, 48, 49, 98, 99, 100, 101, 235, 236, 237, 238, 239, 240, 241, 242, 243, 244, 245, 246, 247, 248, 253, 254, 255, 249, 250, 251, 252] (by decide +kernel) (by decide +kernel)) (goodIn_sub (fun _ h => List.mem_cons_of_mem _ (List.mem_append_right _ h)) (by decide +kernel))) (goodIn_sub (fun _ h => List.mem_cons_of_mem _ (List.mem_append_left _ (List.mem_append_right _ h))) (by decide +kernel))
set_option maxRecDepth 20000 in
theorem gL_change_X6_creaseOf : GoodIn wsL_change (wsV RL 9 RX6 yX6_creaseOf wsX6_creaseOf) := goodIn_app (goodIn_of _ (by decide +kernel)) ggL_change_X6_creaseOf
set_option maxRecDepth 20000 in
theorem ggL_change_X6_fold : GoodIn wsL_change wsX6_fold := goodIn_ca (goodIn_r _ [105, 11, 13, 12, 93, 94, 9, 95, 96, 97, 106, 107, 108, 109, 22, 16, 110, 111, 112, 113, 114, 115, 116, 117, 118, 119, 120, 121, 122, 123, 124, 125, 126, 127, 128, 129, 130, 131, 132, 133, 134, 135, 136, 137, 138, 139, 140, 141, 63, 142, 66, 143, 67, 68, 65, 144, 145, 146, 53, 147, 55, 82, 83, 84, 85, 86, 87, 148, 149, 150, 151, 21, 152, 153, 154, 155, 156, 157, 158, 159, 235, 236, 237, 238, 239, 240, 241, 242, 243, 244, 245, 246, 247, 248, 256, 257, 249, 250, 251, 252, 253, 254, 255] (by decide +kernel) (by decide +kernel)) (goodIn_sub (fun _ h => List.mem_cons_of_mem _ (List.mem_append_right _ h)) (by decide +kernel))
set_option maxRecDepth 20000 in
theorem gL_change_X6_fold : GoodIn wsL_change (wsV RL 24 RX6 yX6_fold wsX6_fold) := goodIn_app (goodIn_of _ (by decide +kernel)) ggL_change_X6_fold
set_option maxRecDepth 20000 in
theorem ggL_change_X6_town : GoodIn wsL_change wsX6_town := goodIn_ca (goodIn_r _ [163, 11, 164, 165, 166, 9, 167, 96, 97, 235, 236, 237, 238, 239, 240, 241, 242, 243, 244, 245, 246, 247, 248] (by decide +kernel) (by decide +kernel)) (goodIn_sub (fun _ h => List.mem_cons_of_mem _ (List.mem_append_right _ h)) (by decide +kernel))
set_option maxRecDepth 20000 in
theorem gL_change_X6_town : GoodIn wsL_change (wsV RL 27 RX6 yX6_town wsX6_town) := goodIn_app (goodIn_of _ (by decide +kernel)) ggL_change_X6_town
set_option maxRecDepth 20000 in
theorem ggL_change_X6_move : GoodIn wsL_change wsX6_move := goodIn_ca (goodIn_ca (goodIn_r _ [171, 27, 28, 11, 164, 14, 165, 166, 9, 167, 96, 97, 106, 107, 108, 109, 22, 16, 110, 111, 112, 113, 114, 115, 116, 117, 118, 119, 120, 121, 122, 123, 124, 125, 126, 127, 128, 129, 130, 131, 132, 133, 134, 135, 136, 137, 138, 139, 140, 141, 63, 142, 66, 143, 67, 68, 65, 144, 145, 146, 53, 147, 55, 172, 157, 158, 159, 235, 236, 237, 238, 239, 240, 241, 242, 243, 244, 245, 246, 247, 248, 256, 257, 249, 250, 251, 252, 253, 254, 255] (by decide +kernel) (by decide +kernel)) (goodIn_sub (fun _ h => List.mem_cons_of_mem _ (List.mem_append_left _ (List.mem_append_right _ h))) (by decide +kernel))) (goodIn_sub (fun _ h => List.mem_cons_of_mem _ (List.mem_append_right _ h)) (by decide +kernel))
set_option maxRecDepth 20000 in
theorem gL_change_X6_move : GoodIn wsL_change (wsV RL 30 RX6 yX6_move wsX6_move) := goodIn_app (goodIn_of _ (by decide +kernel)) ggL_change_X6_move
set_option maxRecDepth 20000 in
theorem ggL_change_L_pulls : GoodIn wsL_change wsL_pulls := goodIn_ca (goodIn_ca (goodIn_r _ [175, 6, 7, 8, 9, 10, 11, 12, 13, 14, 15, 16, 17, 18, 19, 20, 21, 22, 23, 24, 25, 26, 27, 28, 29, 30, 31, 32, 33, 34, 35, 36, 37, 38, 39, 40, 41, 42, 43, 44, 45, 46, 47, 48, 49, 50, 51, 52, 53, 54, 55, 56, 57, 58, 59, 60, 61, 62, 63, 64, 65, 66, 67, 68, 69, 70, 71, 72, 73, 74, 75, 76, 77, 78, 79, 80, 81, 82, 83, 84, 85, 86, 87, 88, 89, 90, 91, 92, 93, 94, 95, 96, 97, 98, 99, 100, 101, 176, 177, 3, 178, 179, 180, 181, 182, 106, 107, 108, 109, 110, 111, 112, 113, 114, 115, 116, 117, 118, 119, 120, 121, 122, 123, 124, 125, 126, 127, 128, 129, 130, 131, 132, 133, 134, 135, 136, 137, 138, 139, 140, 141, 142, 143, 144, 145, 146, 147, 183, 184, 185, 186, 156, 157, 158, 159, 187, 188, 189, 190, 235, 236, 237, 238, 239, 240, 241, 242, 243, 244, 245, 246, 247, 248, 249, 250, 251, 252, 253, 254, 255, 256, 257] (by decide +kernel) (by decide +kernel)) (goodIn_sub (fun _ h => List.mem_cons_of_mem _ (List.mem_append_left _ (List.mem_append_right _ h))) (by decide +kernel))) (goodIn_sub (fun _ h => List.mem_cons_of_mem _ (List.mem_append_right _ h)) (by decide +kernel))
set_option maxRecDepth 20000 in
theorem gL_change_L_pulls : GoodIn wsL_change (va_wsS RL 33 yL_pulls wsL_pulls) := goodIn_app (goodIn_of _ (by decide +kernel)) ggL_change_L_pulls
set_option maxRecDepth 20000 in
theorem ggL_change_X6_renew : GoodIn wsL_change wsX6_renew := goodIn_r _ [194, 11, 13, 106, 107, 108, 9, 109, 22, 16, 110, 111, 112, 113, 114, 115, 116, 117, 118, 119, 120, 121, 122, 123, 124, 125, 126, 127, 128, 129, 130, 131, 132, 133, 134, 135, 136, 137, 138, 139, 140, 141, 63, 142, 66, 143, 67, 68, 65, 144, 145, 146, 53, 147, 55, 29, 30, 31, 32, 33, 34, 35, 195, 196, 197, 198, 156, 157, 158, 159, 235, 236, 237, 238, 239, 240, 241, 242, 243, 244, 245, 246, 247, 248, 256, 257, 249, 250, 251, 252, 253, 254, 255] (by decide +kernel) (by decide +kernel)
set_option maxRecDepth 20000 in
theorem gL_change_X6_renew : GoodIn wsL_change (wsV RL 37 RX6 yX6_renew wsX6_renew) := goodIn_app (goodIn_of _ (by decide +kernel)) ggL_change_X6_renew
set_option maxRecDepth 20000 in
theorem ggL_change_X6_weakest : GoodIn wsL_change wsX6_weakest := goodIn_r _ [202, 11, 12, 92, 82, 83, 9, 84, 85, 86, 87, 235, 236, 237, 238, 239, 240, 241, 242, 243, 244, 245, 246, 247, 248] (by decide +kernel) (by decide +kernel)
set_option maxRecDepth 20000 in
theorem gL_change_X6_weakest : GoodIn wsL_change (wsV RL 41 RX6 yX6_weakest wsX6_weakest) := goodIn_app (goodIn_of _ (by decide +kernel)) ggL_change_X6_weakest
set_option maxRecDepth 20000 in
theorem ggL_change_X6_between : GoodIn wsL_change wsX6_between := goodIn_ca (goodIn_ca (goodIn_r _ [206, 11, 164, 207, 73, 42, 74, 12, 14, 165, 166, 9, 167, 96, 97, 24, 25, 26, 27, 28, 208, 48, 38, 49, 209, 70, 71, 40, 41, 43, 72, 47, 210, 211, 212, 63, 213, 214, 215, 45, 46, 65, 66, 67, 68, 235, 236, 237, 238, 239, 240, 241, 242, 243, 244, 245, 246, 247, 248, 249, 250, 251, 252] (by decide +kernel) (by decide +kernel)) (goodIn_sub (fun _ h => List.mem_cons_of_mem _ (List.mem_append_right _ h)) (by decide +kernel))) (goodIn_sub (fun _ h => List.mem_cons_of_mem _ (List.mem_append_left _ (List.mem_append_right _ h))) (by decide +kernel))
set_option maxRecDepth 20000 in
theorem gL_change_X6_between : GoodIn wsL_change (wsV RL 44 RX6 yX6_between wsX6_between) := goodIn_app (goodIn_of _ (by decide +kernel)) ggL_change_X6_between
set_option maxRecDepth 20000 in
theorem ggL_change_X6_ask : GoodIn wsL_change wsX6_ask := goodIn_ca (goodIn_ca (goodIn_r _ [219, 11, 164, 14, 15, 12, 18, 220, 221, 9, 222, 27, 28, 165, 166, 167, 96, 97, 106, 107, 108, 109, 22, 16, 110, 111, 112, 113, 114, 115, 116, 117, 118, 119, 120, 121, 122, 123, 124, 125, 126, 127, 128, 129, 130, 131, 132, 133, 134, 135, 136, 137, 138, 139, 140, 141, 63, 142, 66, 143, 67, 68, 65, 144, 145, 146, 53, 147, 55, 210, 211, 212, 213, 214, 41, 42, 43, 215, 45, 46, 148, 149, 150, 151, 21, 209, 70, 38, 71, 40, 72, 73, 74, 47, 48, 49, 223, 224, 225, 226, 235, 236, 237, 238, 239, 240, 241, 242, 243, 244, 245, 246, 247, 248, 249, 250, 251, 252, 256, 257, 253, 254, 255] (by decide +kernel) (by decide +kernel)) (goodIn_sub (fun _ h => List.mem_cons_of_mem _ (List.mem_append_left _ (List.mem_append_right _ h))) (by decide +kernel))) (goodIn_sub (fun _ h => List.mem_cons_of_mem _ (List.mem_append_right _ h)) (by decide +kernel))
set_option maxRecDepth 20000 in
theorem gL_change_X6_ask : GoodIn wsL_change (wsV RL 48 RX6 yX6_ask wsX6_ask) := goodIn_app (goodIn_of _ (by decide +kernel)) ggL_change_X6_ask
set_option maxRecDepth 20000 in
theorem ggL_change_L_folded : GoodIn wsL_change wsL_folded := goodIn_ca (goodIn_ca (goodIn_r _ [178, 88, 89, 90, 9, 91, 11, 12, 92, 13, 16, 93, 94, 95, 96, 97, 24, 25, 26, 27, 28, 85, 86, 87, 50, 51, 52, 53, 54, 55, 56, 57, 58, 59, 60, 61, 62, 63, 64, 65, 66, 67, 68, 69, 70, 38, 71, 40, 41, 42, 43, 72, 73, 74, 47, 48, 49, 98, 99, 100, 101, 235, 236, 237, 238, 239, 240, 241, 242, 243, 244, 245, 246, 247, 248, 253, 254, 255, 249, 250, 251, 252] (by decide +kernel) (by decide +kernel)) (goodIn_sub (fun _ h => List.mem_cons_of_mem _ (List.mem_append_right _ h)) (by decide +kernel))) (goodIn_sub (fun _ h => List.mem_cons_of_mem _ (List.mem_append_left _ (List.mem_append_right _ h))) (by decide +kernel))
set_option maxRecDepth 20000 in
theorem gL_change_L_folded : GoodIn wsL_change (va_wsS RL 51 yL_folded wsL_folded) := goodIn_app (goodIn_of _ (by decide +kernel)) ggL_change_L_folded
set_option maxRecDepth 20000 in
theorem ggL_change_L_bits : GoodIn wsL_change wsL_bits := goodIn_r _ [190] (by decide +kernel) (by decide +kernel)
set_option maxRecDepth 20000 in
theorem gL_change_L_bits : GoodIn wsL_change (va_wsS RL 55 yL_bits wsL_bits) := goodIn_app (goodIn_of _ (by decide +kernel)) ggL_change_L_bits
set_option maxRecDepth 20000 in
theorem ggL_change_X6_guess : GoodIn wsL_change wsX6_guess := goodIn_ca (goodIn_r _ [230, 27, 28, 11, 19, 12, 20, 106, 107, 108, 9, 109, 22, 16, 110, 111, 112, 113, 114, 115, 116, 117, 118, 119, 120, 121, 122, 123, 124, 125, 126, 127, 128, 129, 130, 131, 132, 133, 134, 135, 136, 137, 138, 139, 140, 141, 63, 142, 66, 143, 67, 68, 65, 144, 145, 146, 53, 147, 55, 29, 30, 31, 32, 33, 34, 35, 235, 236, 237, 238, 239, 240, 241, 242, 243, 244, 245, 246, 247, 248, 256, 257, 249, 250, 251, 252, 253, 254, 255] (by decide +kernel) (by decide +kernel)) (goodIn_sub (fun _ h => List.mem_cons_of_mem _ (List.mem_append_left _ (List.mem_append_right _ h))) (by decide +kernel))
set_option maxRecDepth 20000 in
theorem gL_change_X6_guess : GoodIn wsL_change (wsV RL 58 RX6 yX6_guess wsX6_guess) := goodIn_app (goodIn_of _ (by decide +kernel)) ggL_change_X6_guess
set_option maxRecDepth 20000 in
theorem ggL_change_X6_forget : GoodIn wsL_change wsX6_forget := goodIn_r _ [234, 11, 14, 15, 106, 107, 108, 9, 109, 22, 16, 110, 111, 112, 113, 114, 115, 116, 117, 118, 119, 120, 121, 122, 123, 124, 125, 126, 127, 128, 129, 130, 131, 132, 133, 134, 135, 136, 137, 138, 139, 140, 141, 63, 142, 66, 143, 67, 68, 65, 144, 145, 146, 53, 147, 55, 172, 157, 158, 159, 235, 236, 237, 238, 239, 240, 241, 242, 243, 244, 245, 246, 247, 248, 249, 250, 251, 252, 256, 257, 253, 254, 255] (by decide +kernel) (by decide +kernel)
set_option maxRecDepth 20000 in
theorem gL_change_X6_forget : GoodIn wsL_change (wsV RL 61 RX6 yX6_forget wsX6_forget) := goodIn_app (goodIn_of _ (by decide +kernel)) ggL_change_X6_forget
theorem dL_change_0 : decode cL_change 0 = .ok (.iload_n 2, 1) := by decide +kernel
theorem dL_change_1 : decode cL_change 1 = .ok (.bipush 9, 2) := by decide +kernel
theorem dL_change_3 : decode cL_change 3 = .ok (.invokestatic 15, 3) := by decide +kernel
theorem dL_change_6 : decode cL_change 6 = .ok (.istore_n 3, 1) := by decide +kernel
theorem dL_change_7 : decode cL_change 7 = .ok (.iload_n 2, 1) := by decide +kernel
theorem dL_change_8 : decode cL_change 8 = .ok (.bipush 6, 2) := by decide +kernel
theorem dL_change_10 : decode cL_change 10 = .ok (.invokestatic 15, 3) := by decide +kernel
theorem dL_change_13 : decode cL_change 13 = .ok (.istore 4, 2) := by decide +kernel
theorem dL_change_15 : decode cL_change 15 = .ok (.iload_n 2, 1) := by decide +kernel
theorem dL_change_16 : decode cL_change 16 = .ok (.iconst 4, 1) := by decide +kernel
theorem dL_change_17 : decode cL_change 17 = .ok (.ishr, 1) := by decide +kernel
theorem dL_change_18 : decode cL_change 18 = .ok (.bipush 6, 2) := by decide +kernel
theorem dL_change_20 : decode cL_change 20 = .ok (.invokestatic 15, 3) := by decide +kernel
theorem dL_change_23 : decode cL_change 23 = .ok (.istore 5, 2) := by decide +kernel
theorem dL_change_25 : decode cL_change 25 = .ok (.aload_n 0, 1) := by decide +kernel
theorem dL_change_26 : decode cL_change 26 = .ok (.bipush 9, 2) := by decide +kernel
theorem dL_change_28 : decode cL_change 28 = .ok (.invokevirtual 20, 3) := by decide +kernel
theorem dL_change_31 : decode cL_change 31 = .ok (.istore 6, 2) := by decide +kernel
theorem dL_change_33 : decode cL_change 33 = .ok (.aload_n 0, 1) := by decide +kernel
theorem dL_change_34 : decode cL_change 34 = .ok (.iconst 3, 1) := by decide +kernel
theorem dL_change_35 : decode cL_change 35 = .ok (.invokevirtual 20, 3) := by decide +kernel
theorem dL_change_38 : decode cL_change 38 = .ok (.istore 7, 2) := by decide +kernel
theorem dL_change_40 : decode cL_change 40 = .ok (.iconst 0, 1) := by decide +kernel
theorem dL_change_41 : decode cL_change 41 = .ok (.istore 8, 2) := by decide +kernel
theorem dL_change_43 : decode cL_change 43 = .ok (.iload_n 1, 1) := by decide +kernel
theorem dL_change_44 : decode cL_change 44 = .ok (.bipush 14, 2) := by decide +kernel
theorem dL_change_46 : decode cL_change 46 = .ok (.invokestatic 15, 3) := by decide +kernel
theorem dL_change_49 : decode cL_change 49 = .ok (.tableswitch 648 0 12 #[67, 67, 67, 198, 198, 256, 269, 351, 351, 351, 351, 521, 521], 67) := by decide +kernel
theorem dL_change_116 : decode cL_change 116 = .ok (.aload_n 0, 1) := by decide +kernel
theorem dL_change_117 : decode cL_change 117 = .ok (.iload_n 3, 1) := by decide +kernel
theorem dL_change_118 : decode cL_change 118 = .ok (.iconst 2, 1) := by decide +kernel
theorem dL_change_119 : decode cL_change 119 = .ok (.invokevirtual 9, 3) := by decide +kernel
theorem dL_change_122 : decode cL_change 122 = .ok (.iconst 1, 1) := by decide +kernel
theorem dL_change_123 : decode cL_change 123 = .ok (.if_icmp .ne 7, 3) := by decide +kernel
theorem dL_change_126 : decode cL_change 126 = .ok (.iconst 1, 1) := by decide +kernel
theorem dL_change_127 : decode cL_change 127 = .ok (.goto 4, 3) := by decide +kernel
theorem dL_change_130 : decode cL_change 130 = .ok (.iconst 0, 1) := by decide +kernel
theorem dL_change_131 : decode cL_change 131 = .ok (.istore 9, 2) := by decide +kernel
theorem dL_change_133 : decode cL_change 133 = .ok (.aload_n 0, 1) := by decide +kernel
theorem dL_change_134 : decode cL_change 134 = .ok (.iload_n 3, 1) := by decide +kernel
theorem dL_change_135 : decode cL_change 135 = .ok (.iconst 0, 1) := by decide +kernel
theorem dL_change_136 : decode cL_change 136 = .ok (.invokevirtual 9, 3) := by decide +kernel
theorem dL_change_139 : decode cL_change 139 = .ok (.istore 8, 2) := by decide +kernel
theorem dL_change_141 : decode cL_change 141 = .ok (.aload_n 0, 1) := by decide +kernel
theorem dL_change_142 : decode cL_change 142 = .ok (.iload_n 3, 1) := by decide +kernel
theorem dL_change_143 : decode cL_change 143 = .ok (.iconst 1, 1) := by decide +kernel
theorem dL_change_144 : decode cL_change 144 = .ok (.invokevirtual 9, 3) := by decide +kernel
theorem dL_change_147 : decode cL_change 147 = .ok (.istore 10, 2) := by decide +kernel
theorem dL_change_149 : decode cL_change 149 = .ok (.aload_n 0, 1) := by decide +kernel
theorem dL_change_150 : decode cL_change 150 = .ok (.iload_n 3, 1) := by decide +kernel
theorem dL_change_151 : decode cL_change 151 = .ok (.invokevirtual 24, 3) := by decide +kernel
theorem dL_change_154 : decode cL_change 154 = .ok (.istore 11, 2) := by decide +kernel
theorem dL_change_156 : decode cL_change 156 = .ok (.iload 9, 2) := by decide +kernel
theorem dL_change_158 : decode cL_change 158 = .ok (.ifCond .eq 40, 3) := by decide +kernel
theorem dL_change_161 : decode cL_change 161 = .ok (.iload 11, 2) := by decide +kernel
theorem dL_change_163 : decode cL_change 163 = .ok (.iconst (-1), 1) := by decide +kernel
theorem dL_change_164 : decode cL_change 164 = .ok (.if_icmp .ne 30, 3) := by decide +kernel
theorem dL_change_167 : decode cL_change 167 = .ok (.aload_n 0, 1) := by decide +kernel
theorem dL_change_168 : decode cL_change 168 = .ok (.bipush 9, 2) := by decide +kernel
theorem dL_change_170 : decode cL_change 170 = .ok (.invokevirtual 20, 3) := by decide +kernel
theorem dL_change_173 : decode cL_change 173 = .ok (.iload 6, 2) := by decide +kernel
theorem dL_change_175 : decode cL_change 175 = .ok (.iconst 1, 1) := by decide +kernel
theorem dL_change_176 : decode cL_change 176 = .ok (.iadd, 1) := by decide +kernel
theorem dL_change_177 : decode cL_change 177 = .ok (.if_icmp .ne 17, 3) := by decide +kernel
theorem dL_change_180 : decode cL_change 180 = .ok (.aload_n 0, 1) := by decide +kernel
theorem dL_change_181 : decode cL_change 181 = .ok (.iconst 3, 1) := by decide +kernel
theorem dL_change_182 : decode cL_change 182 = .ok (.invokevirtual 20, 3) := by decide +kernel
theorem dL_change_185 : decode cL_change 185 = .ok (.iload 7, 2) := by decide +kernel
theorem dL_change_187 : decode cL_change 187 = .ok (.if_icmp .ne 7, 3) := by decide +kernel
theorem dL_change_190 : decode cL_change 190 = .ok (.iconst 1, 1) := by decide +kernel
theorem dL_change_191 : decode cL_change 191 = .ok (.goto 55, 3) := by decide +kernel
theorem dL_change_194 : decode cL_change 194 = .ok (.iconst 0, 1) := by decide +kernel
theorem dL_change_195 : decode cL_change 195 = .ok (.goto 51, 3) := by decide +kernel
theorem dL_change_198 : decode cL_change 198 = .ok (.iload 11, 2) := by decide +kernel
theorem dL_change_200 : decode cL_change 200 = .ok (.iconst 1, 1) := by decide +kernel
theorem dL_change_201 : decode cL_change 201 = .ok (.iload 8, 2) := by decide +kernel
theorem dL_change_203 : decode cL_change 203 = .ok (.isub, 1) := by decide +kernel
theorem dL_change_204 : decode cL_change 204 = .ok (.if_icmp .ne 41, 3) := by decide +kernel
theorem dL_change_207 : decode cL_change 207 = .ok (.aload_n 0, 1) := by decide +kernel
theorem dL_change_208 : decode cL_change 208 = .ok (.iload_n 3, 1) := by decide +kernel
theorem dL_change_209 : decode cL_change 209 = .ok (.iconst 0, 1) := by decide +kernel
theorem dL_change_210 : decode cL_change 210 = .ok (.invokevirtual 9, 3) := by decide +kernel
theorem dL_change_213 : decode cL_change 213 = .ok (.iconst 1, 1) := by decide +kernel
theorem dL_change_214 : decode cL_change 214 = .ok (.iload 8, 2) := by decide +kernel
theorem dL_change_216 : decode cL_change 216 = .ok (.isub, 1) := by decide +kernel
theorem dL_change_217 : decode cL_change 217 = .ok (.if_icmp .ne 28, 3) := by decide +kernel
theorem dL_change_220 : decode cL_change 220 = .ok (.aload_n 0, 1) := by decide +kernel
theorem dL_change_221 : decode cL_change 221 = .ok (.iload_n 3, 1) := by decide +kernel
theorem dL_change_222 : decode cL_change 222 = .ok (.iconst 1, 1) := by decide +kernel
theorem dL_change_223 : decode cL_change 223 = .ok (.invokevirtual 9, 3) := by decide +kernel
theorem dL_change_226 : decode cL_change 226 = .ok (.iload 10, 2) := by decide +kernel
theorem dL_change_228 : decode cL_change 228 = .ok (.iconst 1, 1) := by decide +kernel
theorem dL_change_229 : decode cL_change 229 = .ok (.iadd, 1) := by decide +kernel
theorem dL_change_230 : decode cL_change 230 = .ok (.if_icmp .ne 15, 3) := by decide +kernel
theorem dL_change_233 : decode cL_change 233 = .ok (.aload_n 0, 1) := by decide +kernel
theorem dL_change_234 : decode cL_change 234 = .ok (.iconst 3, 1) := by decide +kernel
theorem dL_change_235 : decode cL_change 235 = .ok (.invokevirtual 20, 3) := by decide +kernel
theorem dL_change_238 : decode cL_change 238 = .ok (.ifCond .ne 7, 3) := by decide +kernel
theorem dL_change_241 : decode cL_change 241 = .ok (.iconst 1, 1) := by decide +kernel
theorem dL_change_242 : decode cL_change 242 = .ok (.goto 4, 3) := by decide +kernel
theorem dL_change_245 : decode cL_change 245 = .ok (.iconst 0, 1) := by decide +kernel
theorem dL_change_246 : decode cL_change 246 = .ok (.ireturn, 1) := by decide +kernel
theorem dL_change_247 : decode cL_change 247 = .ok (.aload_n 0, 1) := by decide +kernel
theorem dL_change_248 : decode cL_change 248 = .ok (.iload 4, 2) := by decide +kernel
theorem dL_change_250 : decode cL_change 250 = .ok (.invokevirtual 27, 3) := by decide +kernel
theorem dL_change_253 : decode cL_change 253 = .ok (.istore 8, 2) := by decide +kernel
theorem dL_change_255 : decode cL_change 255 = .ok (.aload_n 0, 1) := by decide +kernel
theorem dL_change_256 : decode cL_change 256 = .ok (.iload 4, 2) := by decide +kernel
theorem dL_change_258 : decode cL_change 258 = .ok (.iload_n 2, 1) := by decide +kernel
theorem dL_change_259 : decode cL_change 259 = .ok (.iconst 4, 1) := by decide +kernel
theorem dL_change_260 : decode cL_change 260 = .ok (.ishr, 1) := by decide +kernel
theorem dL_change_261 : decode cL_change 261 = .ok (.bipush 10, 2) := by decide +kernel
theorem dL_change_263 : decode cL_change 263 = .ok (.invokestatic 15, 3) := by decide +kernel
theorem dL_change_266 : decode cL_change 266 = .ok (.invokevirtual 30, 3) := by decide +kernel
theorem dL_change_269 : decode cL_change 269 = .ok (.iload 8, 2) := by decide +kernel
theorem dL_change_271 : decode cL_change 271 = .ok (.if_icmp .ne 32, 3) := by decide +kernel
theorem dL_change_274 : decode cL_change 274 = .ok (.aload_n 0, 1) := by decide +kernel
theorem dL_change_275 : decode cL_change 275 = .ok (.iload 4, 2) := by decide +kernel
theorem dL_change_277 : decode cL_change 277 = .ok (.invokevirtual 27, 3) := by decide +kernel
theorem dL_change_280 : decode cL_change 280 = .ok (.iload_n 2, 1) := by decide +kernel
theorem dL_change_281 : decode cL_change 281 = .ok (.iconst 4, 1) := by decide +kernel
theorem dL_change_282 : decode cL_change 282 = .ok (.ishr, 1) := by decide +kernel
theorem dL_change_283 : decode cL_change 283 = .ok (.bipush 10, 2) := by decide +kernel
theorem dL_change_285 : decode cL_change 285 = .ok (.invokestatic 15, 3) := by decide +kernel
theorem dL_change_288 : decode cL_change 288 = .ok (.if_icmp .ne 15, 3) := by decide +kernel
theorem dL_change_291 : decode cL_change 291 = .ok (.aload_n 0, 1) := by decide +kernel
theorem dL_change_292 : decode cL_change 292 = .ok (.iconst 3, 1) := by decide +kernel
theorem dL_change_293 : decode cL_change 293 = .ok (.invokevirtual 20, 3) := by decide +kernel
theorem dL_change_296 : decode cL_change 296 = .ok (.ifCond .ne 7, 3) := by decide +kernel
theorem dL_change_299 : decode cL_change 299 = .ok (.iconst 1, 1) := by decide +kernel
theorem dL_change_300 : decode cL_change 300 = .ok (.goto 4, 3) := by decide +kernel
theorem dL_change_303 : decode cL_change 303 = .ok (.iconst 0, 1) := by decide +kernel
theorem dL_change_304 : decode cL_change 304 = .ok (.ireturn, 1) := by decide +kernel
theorem dL_change_305 : decode cL_change 305 = .ok (.aload_n 0, 1) := by decide +kernel
theorem dL_change_306 : decode cL_change 306 = .ok (.iconst 1, 1) := by decide +kernel
theorem dL_change_307 : decode cL_change 307 = .ok (.iload_n 2, 1) := by decide +kernel
theorem dL_change_308 : decode cL_change 308 = .ok (.bipush 9, 2) := by decide +kernel
theorem dL_change_310 : decode cL_change 310 = .ok (.invokestatic 15, 3) := by decide +kernel
theorem dL_change_313 : decode cL_change 313 = .ok (.iadd, 1) := by decide +kernel
theorem dL_change_314 : decode cL_change 314 = .ok (.invokestatic 33, 3) := by decide +kernel
theorem dL_change_317 : decode cL_change 317 = .ok (.ireturn, 1) := by decide +kernel
theorem dL_change_318 : decode cL_change 318 = .ok (.aload_n 0, 1) := by decide +kernel
theorem dL_change_319 : decode cL_change 319 = .ok (.iconst 1, 1) := by decide +kernel
theorem dL_change_320 : decode cL_change 320 = .ok (.invokevirtual 20, 3) := by decide +kernel
theorem dL_change_323 : decode cL_change 323 = .ok (.istore 12, 2) := by decide +kernel
theorem dL_change_325 : decode cL_change 325 = .ok (.iload_n 2, 1) := by decide +kernel
theorem dL_change_326 : decode cL_change 326 = .ok (.bipush 7, 2) := by decide +kernel
theorem dL_change_328 : decode cL_change 328 = .ok (.iand, 1) := by decide +kernel
theorem dL_change_329 : decode cL_change 329 = .ok (.ifCond .ne 65, 3) := by decide +kernel
theorem dL_change_332 : decode cL_change 332 = .ok (.aload_n 0, 1) := by decide +kernel
theorem dL_change_333 : decode cL_change 333 = .ok (.invokevirtual 37, 3) := by decide +kernel
theorem dL_change_336 : decode cL_change 336 = .ok (.iload 12, 2) := by decide +kernel
theorem dL_change_338 : decode cL_change 338 = .ok (.if_icmp .ne 60, 3) := by decide +kernel
theorem dL_change_341 : decode cL_change 341 = .ok (.aload_n 0, 1) := by decide +kernel
theorem dL_change_342 : decode cL_change 342 = .ok (.iconst 0, 1) := by decide +kernel
theorem dL_change_343 : decode cL_change 343 = .ok (.invokevirtual 20, 3) := by decide +kernel
theorem dL_change_346 : decode cL_change 346 = .ok (.ifCond .ne 52, 3) := by decide +kernel
theorem dL_change_349 : decode cL_change 349 = .ok (.aload_n 0, 1) := by decide +kernel
theorem dL_change_350 : decode cL_change 350 = .ok (.iconst 1, 1) := by decide +kernel
theorem dL_change_351 : decode cL_change 351 = .ok (.invokevirtual 20, 3) := by decide +kernel
theorem dL_change_354 : decode cL_change 354 = .ok (.ifCond .ne 44, 3) := by decide +kernel
theorem dL_change_357 : decode cL_change 357 = .ok (.aload_n 0, 1) := by decide +kernel
theorem dL_change_358 : decode cL_change 358 = .ok (.iconst 2, 1) := by decide +kernel
theorem dL_change_359 : decode cL_change 359 = .ok (.invokevirtual 20, 3) := by decide +kernel
theorem dL_change_362 : decode cL_change 362 = .ok (.bipush 10, 2) := by decide +kernel
theorem dL_change_364 : decode cL_change 364 = .ok (.if_icmp .ne 34, 3) := by decide +kernel
theorem dL_change_367 : decode cL_change 367 = .ok (.aload_n 0, 1) := by decide +kernel
theorem dL_change_368 : decode cL_change 368 = .ok (.iconst 3, 1) := by decide +kernel
theorem dL_change_369 : decode cL_change 369 = .ok (.invokevirtual 20, 3) := by decide +kernel
theorem dL_change_372 : decode cL_change 372 = .ok (.ifCond .ne 26, 3) := by decide +kernel
theorem dL_change_375 : decode cL_change 375 = .ok (.aload_n 0, 1) := by decide +kernel
theorem dL_change_376 : decode cL_change 376 = .ok (.iconst 4, 1) := by decide +kernel
theorem dL_change_377 : decode cL_change 377 = .ok (.invokevirtual 20, 3) := by decide +kernel
theorem dL_change_380 : decode cL_change 380 = .ok (.sipush 512, 3) := by decide +kernel
theorem dL_change_383 : decode cL_change 383 = .ok (.if_icmp .ne 15, 3) := by decide +kernel
theorem dL_change_386 : decode cL_change 386 = .ok (.aload_n 0, 1) := by decide +kernel
theorem dL_change_387 : decode cL_change 387 = .ok (.invokevirtual 41, 3) := by decide +kernel
theorem dL_change_390 : decode cL_change 390 = .ok (.iconst (-1), 1) := by decide +kernel
theorem dL_change_391 : decode cL_change 391 = .ok (.if_icmp .ne 7, 3) := by decide +kernel
theorem dL_change_394 : decode cL_change 394 = .ok (.iconst 1, 1) := by decide +kernel
theorem dL_change_395 : decode cL_change 395 = .ok (.goto 4, 3) := by decide +kernel
theorem dL_change_398 : decode cL_change 398 = .ok (.iconst 0, 1) := by decide +kernel
theorem dL_change_399 : decode cL_change 399 = .ok (.ireturn, 1) := by decide +kernel
theorem dL_change_400 : decode cL_change 400 = .ok (.iload 4, 2) := by decide +kernel
theorem dL_change_402 : decode cL_change 402 = .ok (.iload 5, 2) := by decide +kernel
theorem dL_change_404 : decode cL_change 404 = .ok (.if_icmp .ne 5, 3) := by decide +kernel
theorem dL_change_407 : decode cL_change 407 = .ok (.iconst 1, 1) := by decide +kernel
theorem dL_change_408 : decode cL_change 408 = .ok (.ireturn, 1) := by decide +kernel
theorem dL_change_409 : decode cL_change 409 = .ok (.aload_n 0, 1) := by decide +kernel
theorem dL_change_410 : decode cL_change 410 = .ok (.iload 4, 2) := by decide +kernel
theorem dL_change_412 : decode cL_change 412 = .ok (.iload 5, 2) := by decide +kernel
theorem dL_change_414 : decode cL_change 414 = .ok (.iconst 3, 1) := by decide +kernel
theorem dL_change_415 : decode cL_change 415 = .ok (.invokevirtual 44, 3) := by decide +kernel
theorem dL_change_418 : decode cL_change 418 = .ok (.istore 8, 2) := by decide +kernel
theorem dL_change_420 : decode cL_change 420 = .ok (.aload_n 0, 1) := by decide +kernel
theorem dL_change_421 : decode cL_change 421 = .ok (.bipush 6, 2) := by decide +kernel
theorem dL_change_423 : decode cL_change 423 = .ok (.invokevirtual 20, 3) := by decide +kernel
theorem dL_change_426 : decode cL_change 426 = .ok (.istore 13, 2) := by decide +kernel
theorem dL_change_428 : decode cL_change 428 = .ok (.aload_n 0, 1) := by decide +kernel
theorem dL_change_429 : decode cL_change 429 = .ok (.iload 4, 2) := by decide +kernel
theorem dL_change_431 : decode cL_change 431 = .ok (.iload 5, 2) := by decide +kernel
theorem dL_change_433 : decode cL_change 433 = .ok (.invokevirtual 48, 3) := by decide +kernel
theorem dL_change_436 : decode cL_change 436 = .ok (.istore 14, 2) := by decide +kernel
theorem dL_change_438 : decode cL_change 438 = .ok (.iload 8, 2) := by decide +kernel
theorem dL_change_440 : decode cL_change 440 = .ok (.iconst (-1), 1) := by decide +kernel
theorem dL_change_441 : decode cL_change 441 = .ok (.if_icmp .ne 10, 3) := by decide +kernel
theorem dL_change_444 : decode cL_change 444 = .ok (.iload 7, 2) := by decide +kernel
theorem dL_change_446 : decode cL_change 446 = .ok (.bipush 12, 2) := by decide +kernel
theorem dL_change_448 : decode cL_change 448 = .ok (.if_icmp .ne 49, 3) := by decide +kernel
theorem dL_change_451 : decode cL_change 451 = .ok (.iload 14, 2) := by decide +kernel
theorem dL_change_453 : decode cL_change 453 = .ok (.iconst (-1), 1) := by decide +kernel
theorem dL_change_454 : decode cL_change 454 = .ok (.if_icmp .ne 41, 3) := by decide +kernel
theorem dL_change_457 : decode cL_change 457 = .ok (.aload_n 0, 1) := by decide +kernel
theorem dL_change_458 : decode cL_change 458 = .ok (.bipush 9, 2) := by decide +kernel
theorem dL_change_460 : decode cL_change 460 = .ok (.invokevirtual 20, 3) := by decide +kernel
theorem dL_change_463 : decode cL_change 463 = .ok (.iload 6, 2) := by decide +kernel
theorem dL_change_465 : decode cL_change 465 = .ok (.iconst 1, 1) := by decide +kernel
theorem dL_change_466 : decode cL_change 466 = .ok (.iadd, 1) := by decide +kernel
theorem dL_change_467 : decode cL_change 467 = .ok (.if_icmp .ne 28, 3) := by decide +kernel
theorem dL_change_470 : decode cL_change 470 = .ok (.aload_n 0, 1) := by decide +kernel
theorem dL_change_471 : decode cL_change 471 = .ok (.iconst 3, 1) := by decide +kernel
theorem dL_change_472 : decode cL_change 472 = .ok (.invokevirtual 20, 3) := by decide +kernel
theorem dL_change_475 : decode cL_change 475 = .ok (.iload 7, 2) := by decide +kernel
theorem dL_change_477 : decode cL_change 477 = .ok (.if_icmp .ne 18, 3) := by decide +kernel
theorem dL_change_480 : decode cL_change 480 = .ok (.aload_n 0, 1) := by decide +kernel
theorem dL_change_481 : decode cL_change 481 = .ok (.bipush 6, 2) := by decide +kernel
theorem dL_change_483 : decode cL_change 483 = .ok (.invokevirtual 20, 3) := by decide +kernel
theorem dL_change_486 : decode cL_change 486 = .ok (.iload 13, 2) := by decide +kernel
theorem dL_change_488 : decode cL_change 488 = .ok (.if_icmp .ne 7, 3) := by decide +kernel
theorem dL_change_491 : decode cL_change 491 = .ok (.iconst 1, 1) := by decide +kernel
theorem dL_change_492 : decode cL_change 492 = .ok (.goto 4, 3) := by decide +kernel
theorem dL_change_495 : decode cL_change 495 = .ok (.iconst 0, 1) := by decide +kernel
theorem dL_change_496 : decode cL_change 496 = .ok (.ireturn, 1) := by decide +kernel
theorem dL_change_497 : decode cL_change 497 = .ok (.iload 14, 2) := by decide +kernel
theorem dL_change_499 : decode cL_change 499 = .ok (.aload_n 0, 1) := by decide +kernel
theorem dL_change_500 : decode cL_change 500 = .ok (.iload 4, 2) := by decide +kernel
theorem dL_change_502 : decode cL_change 502 = .ok (.iload 5, 2) := by decide +kernel
theorem dL_change_504 : decode cL_change 504 = .ok (.iconst 2, 1) := by decide +kernel
theorem dL_change_505 : decode cL_change 505 = .ok (.invokevirtual 44, 3) := by decide +kernel
theorem dL_change_508 : decode cL_change 508 = .ok (.if_icmp .ne 60, 3) := by decide +kernel
theorem dL_change_511 : decode cL_change 511 = .ok (.aload_n 0, 1) := by decide +kernel
theorem dL_change_512 : decode cL_change 512 = .ok (.iload 4, 2) := by decide +kernel
theorem dL_change_514 : decode cL_change 514 = .ok (.iload 5, 2) := by decide +kernel
theorem dL_change_516 : decode cL_change 516 = .ok (.iconst 3, 1) := by decide +kernel
theorem dL_change_517 : decode cL_change 517 = .ok (.invokevirtual 44, 3) := by decide +kernel
theorem dL_change_520 : decode cL_change 520 = .ok (.iload 14, 2) := by decide +kernel
theorem dL_change_522 : decode cL_change 522 = .ok (.if_icmp .ne 46, 3) := by decide +kernel
theorem dL_change_525 : decode cL_change 525 = .ok (.aload_n 0, 1) := by decide +kernel
theorem dL_change_526 : decode cL_change 526 = .ok (.iload 5, 2) := by decide +kernel
theorem dL_change_528 : decode cL_change 528 = .ok (.iload 4, 2) := by decide +kernel
theorem dL_change_530 : decode cL_change 530 = .ok (.iconst 3, 1) := by decide +kernel
theorem dL_change_531 : decode cL_change 531 = .ok (.invokevirtual 44, 3) := by decide +kernel
theorem dL_change_534 : decode cL_change 534 = .ok (.iload 14, 2) := by decide +kernel
theorem dL_change_536 : decode cL_change 536 = .ok (.if_icmp .ne 32, 3) := by decide +kernel
theorem dL_change_539 : decode cL_change 539 = .ok (.aload_n 0, 1) := by decide +kernel
theorem dL_change_540 : decode cL_change 540 = .ok (.iconst 3, 1) := by decide +kernel
theorem dL_change_541 : decode cL_change 541 = .ok (.invokevirtual 20, 3) := by decide +kernel
theorem dL_change_544 : decode cL_change 544 = .ok (.iload 7, 2) := by decide +kernel
theorem dL_change_546 : decode cL_change 546 = .ok (.iconst 1, 1) := by decide +kernel
theorem dL_change_547 : decode cL_change 547 = .ok (.iadd, 1) := by decide +kernel
theorem dL_change_548 : decode cL_change 548 = .ok (.if_icmp .ne 20, 3) := by decide +kernel
theorem dL_change_551 : decode cL_change 551 = .ok (.aload_n 0, 1) := by decide +kernel
theorem dL_change_552 : decode cL_change 552 = .ok (.bipush 6, 2) := by decide +kernel
theorem dL_change_554 : decode cL_change 554 = .ok (.invokevirtual 20, 3) := by decide +kernel
theorem dL_change_557 : decode cL_change 557 = .ok (.iload 13, 2) := by decide +kernel
theorem dL_change_559 : decode cL_change 559 = .ok (.iconst 1, 1) := by decide +kernel
theorem dL_change_560 : decode cL_change 560 = .ok (.iadd, 1) := by decide +kernel
theorem dL_change_561 : decode cL_change 561 = .ok (.if_icmp .ne 7, 3) := by decide +kernel
theorem dL_change_564 : decode cL_change 564 = .ok (.iconst 1, 1) := by decide +kernel
theorem dL_change_565 : decode cL_change 565 = .ok (.goto 4, 3) := by decide +kernel
theorem dL_change_568 : decode cL_change 568 = .ok (.iconst 0, 1) := by decide +kernel
theorem dL_change_569 : decode cL_change 569 = .ok (.ireturn, 1) := by decide +kernel
theorem dL_change_570 : decode cL_change 570 = .ok (.iload_n 2, 1) := by decide +kernel
theorem dL_change_571 : decode cL_change 571 = .ok (.iconst 3, 1) := by decide +kernel
theorem dL_change_572 : decode cL_change 572 = .ok (.iand, 1) := by decide +kernel
theorem dL_change_573 : decode cL_change 573 = .ok (.ifCond .ne 10, 3) := by decide +kernel
theorem dL_change_576 : decode cL_change 576 = .ok (.aload_n 0, 1) := by decide +kernel
theorem dL_change_577 : decode cL_change 577 = .ok (.invokestatic 51, 3) := by decide +kernel
theorem dL_change_580 : decode cL_change 580 = .ok (.goto 12, 3) := by decide +kernel
theorem dL_change_583 : decode cL_change 583 = .ok (.iload_n 2, 1) := by decide +kernel
theorem dL_change_584 : decode cL_change 584 = .ok (.iconst 2, 1) := by decide +kernel
theorem dL_change_585 : decode cL_change 585 = .ok (.ishr, 1) := by decide +kernel
theorem dL_change_586 : decode cL_change 586 = .ok (.sipush 512, 3) := by decide +kernel
theorem dL_change_589 : decode cL_change 589 = .ok (.invokestatic 15, 3) := by decide +kernel
theorem dL_change_592 : decode cL_change 592 = .ok (.istore 15, 2) := by decide +kernel
theorem dL_change_594 : decode cL_change 594 = .ok (.aload_n 0, 1) := by decide +kernel
theorem dL_change_595 : decode cL_change 595 = .ok (.bipush 8, 2) := by decide +kernel
theorem dL_change_597 : decode cL_change 597 = .ok (.invokevirtual 20, 3) := by decide +kernel
theorem dL_change_600 : decode cL_change 600 = .ok (.istore 16, 2) := by decide +kernel
theorem dL_change_602 : decode cL_change 602 = .ok (.aload_n 0, 1) := by decide +kernel
theorem dL_change_603 : decode cL_change 603 = .ok (.bipush 7, 2) := by decide +kernel
theorem dL_change_605 : decode cL_change 605 = .ok (.invokevirtual 20, 3) := by decide +kernel
theorem dL_change_608 : decode cL_change 608 = .ok (.istore 17, 2) := by decide +kernel
theorem dL_change_610 : decode cL_change 610 = .ok (.iload 15, 2) := by decide +kernel
theorem dL_change_612 : decode cL_change 612 = .ok (.aload_n 0, 1) := by decide +kernel
theorem dL_change_613 : decode cL_change 613 = .ok (.invokestatic 51, 3) := by decide +kernel
theorem dL_change_616 : decode cL_change 616 = .ok (.ixor, 1) := by decide +kernel
theorem dL_change_617 : decode cL_change 617 = .ok (.invokestatic 55, 3) := by decide +kernel
theorem dL_change_620 : decode cL_change 620 = .ok (.istore 18, 2) := by decide +kernel
theorem dL_change_622 : decode cL_change 622 = .ok (.aload_n 0, 1) := by decide +kernel
theorem dL_change_623 : decode cL_change 623 = .ok (.iload 15, 2) := by decide +kernel
theorem dL_change_625 : decode cL_change 625 = .ok (.invokevirtual 58, 3) := by decide +kernel
theorem dL_change_628 : decode cL_change 628 = .ok (.iload 18, 2) := by decide +kernel
theorem dL_change_630 : decode cL_change 630 = .ok (.ifCond .ne 8, 3) := by decide +kernel
theorem dL_change_633 : decode cL_change 633 = .ok (.bipush 10, 2) := by decide +kernel
theorem dL_change_635 : decode cL_change 635 = .ok (.goto 8, 3) := by decide +kernel
theorem dL_change_638 : decode cL_change 638 = .ok (.bipush 9, 2) := by decide +kernel
theorem dL_change_640 : decode cL_change 640 = .ok (.iload 18, 2) := by decide +kernel
theorem dL_change_642 : decode cL_change 642 = .ok (.isub, 1) := by decide +kernel
theorem dL_change_643 : decode cL_change 643 = .ok (.if_icmp .ne 52, 3) := by decide +kernel
theorem dL_change_646 : decode cL_change 646 = .ok (.aload_n 0, 1) := by decide +kernel
theorem dL_change_647 : decode cL_change 647 = .ok (.bipush 7, 2) := by decide +kernel
theorem dL_change_649 : decode cL_change 649 = .ok (.invokevirtual 20, 3) := by decide +kernel
theorem dL_change_652 : decode cL_change 652 = .ok (.iload 17, 2) := by decide +kernel
theorem dL_change_654 : decode cL_change 654 = .ok (.iconst 1, 1) := by decide +kernel
theorem dL_change_655 : decode cL_change 655 = .ok (.iadd, 1) := by decide +kernel
theorem dL_change_656 : decode cL_change 656 = .ok (.if_icmp .ne 39, 3) := by decide +kernel
theorem dL_change_659 : decode cL_change 659 = .ok (.aload_n 0, 1) := by decide +kernel
theorem dL_change_660 : decode cL_change 660 = .ok (.bipush 8, 2) := by decide +kernel
theorem dL_change_662 : decode cL_change 662 = .ok (.invokevirtual 20, 3) := by decide +kernel
theorem dL_change_665 : decode cL_change 665 = .ok (.iload 16, 2) := by decide +kernel
theorem dL_change_667 : decode cL_change 667 = .ok (.iload 18, 2) := by decide +kernel
theorem dL_change_669 : decode cL_change 669 = .ok (.ifCond .ne 7, 3) := by decide +kernel
theorem dL_change_672 : decode cL_change 672 = .ok (.iconst 1, 1) := by decide +kernel
theorem dL_change_673 : decode cL_change 673 = .ok (.goto 4, 3) := by decide +kernel
theorem dL_change_676 : decode cL_change 676 = .ok (.iconst 0, 1) := by decide +kernel
theorem dL_change_677 : decode cL_change 677 = .ok (.iadd, 1) := by decide +kernel
theorem dL_change_678 : decode cL_change 678 = .ok (.if_icmp .ne 17, 3) := by decide +kernel
theorem dL_change_681 : decode cL_change 681 = .ok (.aload_n 0, 1) := by decide +kernel
theorem dL_change_682 : decode cL_change 682 = .ok (.iconst 3, 1) := by decide +kernel
theorem dL_change_683 : decode cL_change 683 = .ok (.invokevirtual 20, 3) := by decide +kernel
theorem dL_change_686 : decode cL_change 686 = .ok (.iload 7, 2) := by decide +kernel
theorem dL_change_688 : decode cL_change 688 = .ok (.if_icmp .ne 7, 3) := by decide +kernel
theorem dL_change_691 : decode cL_change 691 = .ok (.iconst 1, 1) := by decide +kernel
theorem dL_change_692 : decode cL_change 692 = .ok (.goto 4, 3) := by decide +kernel
theorem dL_change_695 : decode cL_change 695 = .ok (.iconst 0, 1) := by decide +kernel
theorem dL_change_696 : decode cL_change 696 = .ok (.ireturn, 1) := by decide +kernel
theorem dL_change_697 : decode cL_change 697 = .ok (.iload_n 2, 1) := by decide +kernel
theorem dL_change_698 : decode cL_change 698 = .ok (.iconst 3, 1) := by decide +kernel
theorem dL_change_699 : decode cL_change 699 = .ok (.iand, 1) := by decide +kernel
theorem dL_change_700 : decode cL_change 700 = .ok (.ifCond .ne 20, 3) := by decide +kernel
theorem dL_change_703 : decode cL_change 703 = .ok (.aload_n 0, 1) := by decide +kernel
theorem dL_change_704 : decode cL_change 704 = .ok (.invokevirtual 61, 3) := by decide +kernel
theorem dL_change_707 : decode cL_change 707 = .ok (.iload 7, 2) := by decide +kernel
theorem dL_change_709 : decode cL_change 709 = .ok (.if_icmp .ne 15, 3) := by decide +kernel
theorem dL_change_712 : decode cL_change 712 = .ok (.aload_n 0, 1) := by decide +kernel
theorem dL_change_713 : decode cL_change 713 = .ok (.iconst 3, 1) := by decide +kernel
theorem dL_change_714 : decode cL_change 714 = .ok (.invokevirtual 20, 3) := by decide +kernel
theorem dL_change_717 : decode cL_change 717 = .ok (.ifCond .ne 7, 3) := by decide +kernel
theorem dL_change_720 : decode cL_change 720 = .ok (.iconst 1, 1) := by decide +kernel
theorem dL_change_721 : decode cL_change 721 = .ok (.goto 4, 3) := by decide +kernel
theorem dL_change_724 : decode cL_change 724 = .ok (.iconst 0, 1) := by decide +kernel
theorem dL_change_725 : decode cL_change 725 = .ok (.ireturn, 1) := by decide +kernel
set_option maxRecDepth 20000 in
theorem ggL_pulls_X6_count : GoodIn wsL_pulls wsX6_count := goodIn_ca (goodIn_r _ [5, 6, 7, 8, 9, 10, 11, 12, 13, 14, 15, 16, 17, 18, 19, 20, 4, 21, 22, 23, 24, 25, 26, 27, 28, 29, 30, 31, 32, 33, 34, 35, 36, 37, 38, 39, 40, 41, 42, 43, 44, 45, 46, 47, 48, 49, 50, 51, 52, 53, 54, 55, 56, 57, 58, 59, 60, 61, 62, 63, 64, 65, 66, 67, 68, 69, 70, 71, 72, 73, 74, 75, 76, 77, 78, 79, 80, 81, 82, 159, 160, 161, 162, 163, 164, 165, 166, 167, 168, 169, 170, 171, 172, 173, 174, 175, 176, 177, 178, 179, 180, 181] (by decide +kernel) (by decide +kernel)) (goodIn_sub (fun _ h => List.mem_cons_of_mem _ (List.mem_append_left _ (List.mem_append_right _ h))) (by decide +kernel))
set_option maxRecDepth 20000 in
theorem gL_pulls_X6_count : GoodIn wsL_pulls (wsV RL 20 RX6 yX6_count wsX6_count) := goodIn_app (goodIn_of _ (by decide +kernel)) ggL_pulls_X6_count
set_option maxRecDepth 20000 in
theorem ggL_pulls_X6_creaseOf : GoodIn wsL_pulls wsX6_creaseOf := goodIn_ca (goodIn_ca (goodIn_r _ [86, 6, 7, 87, 8, 11, 88, 89, 4, 90, 91, 92, 19, 20, 21, 22, 23, 80, 81, 82, 45, 46, 47, 48, 49, 50, 51, 52, 53, 54, 55, 56, 57, 58, 59, 60, 61, 62, 63, 64, 65, 33, 66, 35, 36, 37, 38, 67, 68, 69, 42, 43, 44, 93, 94, 95, 96, 159, 160, 161, 162, 163, 164, 165, 166, 167, 168, 169, 170, 171, 172, 177, 178, 179, 173, 174, 175, 176] (by decide +kernel) (by decide +kernel)) (goodIn_sub (fun _ h => List.mem_cons_of_mem _ (List.mem_append_right _ h)) (by decide +kernel))) (goodIn_sub (fun _ h => List.mem_cons_of_mem _ (List.mem_append_left _ (List.mem_append_right _ h))) (by decide +kernel))
set_option maxRecDepth 20000 in
theorem gL_pulls_X6_creaseOf : GoodIn wsL_pulls (wsV RL 9 RX6 yX6_creaseOf wsX6_creaseOf) := goodIn_app (goodIn_of _ (by decide +kernel)) ggL_pulls_X6_creaseOf
set_option maxRecDepth 20000 in
theorem ggL_pulls_L_folded : GoodIn wsL_pulls wsL_folded := goodIn_ca (goodIn_ca (goodIn_r _ [100, 83, 84, 85, 4, 86, 6, 7, 87, 8, 11, 88, 89, 90, 91, 92, 19, 20, 21, 22, 23, 80, 81, 82, 45, 46, 47, 48, 49, 50, 51, 52, 53, 54, 55, 56, 57, 58, 59, 60, 61, 62, 63, 64, 65, 33, 66, 35, 36, 37, 38, 67, 68, 69, 42, 43, 44, 93, 94, 95, 96, 159, 160, 161, 162, 163, 164, 165, 166, 167, 168, 169, 170, 171, 172, 177, 178, 179, 173, 174, 175, 176] (by decide +kernel) (by decide +kernel)) (goodIn_sub (fun _ h => List.mem_cons_of_mem _ (List.mem_append_right _ h)) (by decide +kernel))) (goodIn_sub (fun _ h => List.mem_cons_of_mem _ (List.mem_append_left _ (List.mem_append_right _ h))) (by decide +kernel))
set_option maxRecDepth 20000 in
theorem gL_pulls_L_folded : GoodIn wsL_pulls (va_wsS RL 51 yL_folded wsL_folded) := goodIn_app (goodIn_of _ (by decide +kernel)) ggL_pulls_L_folded
set_option maxRecDepth 20000 in
theorem ggL_pulls_X6_pull : GoodIn wsL_pulls wsX6_pull := goodIn_ca (goodIn_r _ [104, 22, 23, 6, 105, 106, 107, 4, 108, 17, 11, 109, 110, 111, 112, 113, 114, 115, 116, 117, 118, 119, 120, 121, 122, 123, 124, 125, 126, 127, 128, 129, 130, 131, 132, 133, 134, 135, 136, 137, 138, 139, 140, 58, 141, 61, 142, 62, 63, 60, 143, 144, 145, 48, 146, 50, 147, 148, 149, 150, 78, 79, 80, 81, 82, 151, 152, 153, 154, 155, 25, 26, 27, 28, 29, 30, 159, 160, 161, 162, 163, 180, 181, 164, 165, 166, 167, 168, 169, 170, 171, 172, 173, 174, 175, 176, 177, 178, 179] (by decide +kernel) (by decide +kernel)) (goodIn_sub (fun _ h => List.mem_cons_of_mem _ (List.mem_append_left _ (List.mem_append_right _ h))) (by decide +kernel))
set_option maxRecDepth 20000 in
theorem gL_pulls_X6_pull : GoodIn wsL_pulls (wsV RL 64 RX6 yX6_pull wsX6_pull) := goodIn_app (goodIn_of _ (by decide +kernel)) ggL_pulls_X6_pull
set_option maxRecDepth 20000 in
theorem ggL_pulls_L_bits : GoodIn wsL_pulls wsL_bits := goodIn_r _ [158] (by decide +kernel) (by decide +kernel)
set_option maxRecDepth 20000 in
theorem gL_pulls_L_bits : GoodIn wsL_pulls (va_wsS RL 55 yL_bits wsL_bits) := goodIn_app (goodIn_of _ (by decide +kernel)) ggL_pulls_L_bits
theorem dL_pulls_0 : decode cL_pulls 0 = .ok (.iconst 0, 1) := by decide +kernel
theorem dL_pulls_1 : decode cL_pulls 1 = .ok (.istore_n 2, 1) := by decide +kernel
theorem dL_pulls_2 : decode cL_pulls 2 = .ok (.iconst 0, 1) := by decide +kernel
theorem dL_pulls_3 : decode cL_pulls 3 = .ok (.istore_n 3, 1) := by decide +kernel
theorem dL_pulls_4 : decode cL_pulls 4 = .ok (.aload_n 0, 1) := by decide +kernel
theorem dL_pulls_5 : decode cL_pulls 5 = .ok (.iconst 3, 1) := by decide +kernel
theorem dL_pulls_6 : decode cL_pulls 6 = .ok (.invokevirtual 20, 3) := by decide +kernel
theorem dL_pulls_9 : decode cL_pulls 9 = .ok (.istore 4, 2) := by decide +kernel
theorem dL_pulls_11 : decode cL_pulls 11 = .ok (.iconst 0, 1) := by decide +kernel
theorem dL_pulls_12 : decode cL_pulls 12 = .ok (.istore 5, 2) := by decide +kernel
theorem dL_pulls_14 : decode cL_pulls 14 = .ok (.iload 5, 2) := by decide +kernel
theorem dL_pulls_16 : decode cL_pulls 16 = .ok (.bipush 9, 2) := by decide +kernel
theorem dL_pulls_18 : decode cL_pulls 18 = .ok (.if_icmp .ge 58, 3) := by decide +kernel
theorem dL_pulls_21 : decode cL_pulls 21 = .ok (.iload_n 2, 1) := by decide +kernel
theorem dL_pulls_22 : decode cL_pulls 22 = .ok (.aload_n 0, 1) := by decide +kernel
theorem dL_pulls_23 : decode cL_pulls 23 = .ok (.iload 5, 2) := by decide +kernel
theorem dL_pulls_25 : decode cL_pulls 25 = .ok (.iconst 2, 1) := by decide +kernel
theorem dL_pulls_26 : decode cL_pulls 26 = .ok (.invokevirtual 9, 3) := by decide +kernel
theorem dL_pulls_29 : decode cL_pulls 29 = .ok (.iload 5, 2) := by decide +kernel
theorem dL_pulls_31 : decode cL_pulls 31 = .ok (.ishl, 1) := by decide +kernel
theorem dL_pulls_32 : decode cL_pulls 32 = .ok (.ior, 1) := by decide +kernel
theorem dL_pulls_33 : decode cL_pulls 33 = .ok (.istore_n 2, 1) := by decide +kernel
theorem dL_pulls_34 : decode cL_pulls 34 = .ok (.iload_n 3, 1) := by decide +kernel
theorem dL_pulls_35 : decode cL_pulls 35 = .ok (.aload_n 0, 1) := by decide +kernel
theorem dL_pulls_36 : decode cL_pulls 36 = .ok (.iload 5, 2) := by decide +kernel
theorem dL_pulls_38 : decode cL_pulls 38 = .ok (.iconst 0, 1) := by decide +kernel
theorem dL_pulls_39 : decode cL_pulls 39 = .ok (.invokevirtual 9, 3) := by decide +kernel
theorem dL_pulls_42 : decode cL_pulls 42 = .ok (.iconst 1, 1) := by decide +kernel
theorem dL_pulls_43 : decode cL_pulls 43 = .ok (.if_icmp .ne 24, 3) := by decide +kernel
theorem dL_pulls_46 : decode cL_pulls 46 = .ok (.aload_n 0, 1) := by decide +kernel
theorem dL_pulls_47 : decode cL_pulls 47 = .ok (.iload 5, 2) := by decide +kernel
theorem dL_pulls_49 : decode cL_pulls 49 = .ok (.iconst 1, 1) := by decide +kernel
theorem dL_pulls_50 : decode cL_pulls 50 = .ok (.invokevirtual 9, 3) := by decide +kernel
theorem dL_pulls_53 : decode cL_pulls 53 = .ok (.bipush 10, 2) := by decide +kernel
theorem dL_pulls_55 : decode cL_pulls 55 = .ok (.iload_n 1, 1) := by decide +kernel
theorem dL_pulls_56 : decode cL_pulls 56 = .ok (.isub, 1) := by decide +kernel
theorem dL_pulls_57 : decode cL_pulls 57 = .ok (.if_icmp .lt 10, 3) := by decide +kernel
theorem dL_pulls_60 : decode cL_pulls 60 = .ok (.iconst 1, 1) := by decide +kernel
theorem dL_pulls_61 : decode cL_pulls 61 = .ok (.iload 5, 2) := by decide +kernel
theorem dL_pulls_63 : decode cL_pulls 63 = .ok (.ishl, 1) := by decide +kernel
theorem dL_pulls_64 : decode cL_pulls 64 = .ok (.goto 4, 3) := by decide +kernel
theorem dL_pulls_67 : decode cL_pulls 67 = .ok (.iconst 0, 1) := by decide +kernel
theorem dL_pulls_68 : decode cL_pulls 68 = .ok (.ior, 1) := by decide +kernel
theorem dL_pulls_69 : decode cL_pulls 69 = .ok (.istore_n 3, 1) := by decide +kernel
theorem dL_pulls_70 : decode cL_pulls 70 = .ok (.iinc 5 1, 3) := by decide +kernel
theorem dL_pulls_73 : decode cL_pulls 73 = .ok (.goto (-59), 3) := by decide +kernel
theorem dL_pulls_76 : decode cL_pulls 76 = .ok (.aload_n 0, 1) := by decide +kernel
theorem dL_pulls_77 : decode cL_pulls 77 = .ok (.invokestatic 51, 3) := by decide +kernel
theorem dL_pulls_80 : decode cL_pulls 80 = .ok (.istore 5, 2) := by decide +kernel
theorem dL_pulls_82 : decode cL_pulls 82 = .ok (.aload_n 0, 1) := by decide +kernel
theorem dL_pulls_83 : decode cL_pulls 83 = .ok (.iload_n 1, 1) := by decide +kernel
theorem dL_pulls_84 : decode cL_pulls 84 = .ok (.invokevirtual 64, 3) := by decide +kernel
theorem dL_pulls_87 : decode cL_pulls 87 = .ok (.iload_n 3, 1) := by decide +kernel
theorem dL_pulls_88 : decode cL_pulls 88 = .ok (.invokestatic 55, 3) := by decide +kernel
theorem dL_pulls_91 : decode cL_pulls 91 = .ok (.if_icmp .ne 38, 3) := by decide +kernel
theorem dL_pulls_94 : decode cL_pulls 94 = .ok (.aload_n 0, 1) := by decide +kernel
theorem dL_pulls_95 : decode cL_pulls 95 = .ok (.invokestatic 51, 3) := by decide +kernel
theorem dL_pulls_98 : decode cL_pulls 98 = .ok (.iload 5, 2) := by decide +kernel
theorem dL_pulls_100 : decode cL_pulls 100 = .ok (.iload_n 3, 1) := by decide +kernel
theorem dL_pulls_101 : decode cL_pulls 101 = .ok (.iconst (-1), 1) := by decide +kernel
theorem dL_pulls_102 : decode cL_pulls 102 = .ok (.ixor, 1) := by decide +kernel
theorem dL_pulls_103 : decode cL_pulls 103 = .ok (.iand, 1) := by decide +kernel
theorem dL_pulls_104 : decode cL_pulls 104 = .ok (.if_icmp .ne 25, 3) := by decide +kernel
theorem dL_pulls_107 : decode cL_pulls 107 = .ok (.aload_n 0, 1) := by decide +kernel
theorem dL_pulls_108 : decode cL_pulls 108 = .ok (.iconst 3, 1) := by decide +kernel
theorem dL_pulls_109 : decode cL_pulls 109 = .ok (.invokevirtual 20, 3) := by decide +kernel
theorem dL_pulls_112 : decode cL_pulls 112 = .ok (.iload_n 3, 1) := by decide +kernel
theorem dL_pulls_113 : decode cL_pulls 113 = .ok (.ifCond .ne 8, 3) := by decide +kernel
theorem dL_pulls_116 : decode cL_pulls 116 = .ok (.iload 4, 2) := by decide +kernel
theorem dL_pulls_118 : decode cL_pulls 118 = .ok (.goto 4, 3) := by decide +kernel
theorem dL_pulls_121 : decode cL_pulls 121 = .ok (.iconst 0, 1) := by decide +kernel
theorem dL_pulls_122 : decode cL_pulls 122 = .ok (.if_icmp .ne 7, 3) := by decide +kernel
theorem dL_pulls_125 : decode cL_pulls 125 = .ok (.iconst 1, 1) := by decide +kernel
theorem dL_pulls_126 : decode cL_pulls 126 = .ok (.goto 4, 3) := by decide +kernel
theorem dL_pulls_129 : decode cL_pulls 129 = .ok (.iconst 0, 1) := by decide +kernel
theorem dL_pulls_130 : decode cL_pulls 130 = .ok (.istore 6, 2) := by decide +kernel
theorem dL_pulls_132 : decode cL_pulls 132 = .ok (.iconst 0, 1) := by decide +kernel
theorem dL_pulls_133 : decode cL_pulls 133 = .ok (.istore 7, 2) := by decide +kernel
theorem dL_pulls_135 : decode cL_pulls 135 = .ok (.iload 7, 2) := by decide +kernel
theorem dL_pulls_137 : decode cL_pulls 137 = .ok (.bipush 9, 2) := by decide +kernel
theorem dL_pulls_139 : decode cL_pulls 139 = .ok (.if_icmp .ge 39, 3) := by decide +kernel
theorem dL_pulls_142 : decode cL_pulls 142 = .ok (.iload 6, 2) := by decide +kernel
theorem dL_pulls_144 : decode cL_pulls 144 = .ok (.ifCond .eq 34, 3) := by decide +kernel
theorem dL_pulls_147 : decode cL_pulls 147 = .ok (.aload_n 0, 1) := by decide +kernel
theorem dL_pulls_148 : decode cL_pulls 148 = .ok (.iload 7, 2) := by decide +kernel
theorem dL_pulls_150 : decode cL_pulls 150 = .ok (.iconst 2, 1) := by decide +kernel
theorem dL_pulls_151 : decode cL_pulls 151 = .ok (.invokevirtual 9, 3) := by decide +kernel
theorem dL_pulls_154 : decode cL_pulls 154 = .ok (.iload_n 2, 1) := by decide +kernel
theorem dL_pulls_155 : decode cL_pulls 155 = .ok (.iload_n 3, 1) := by decide +kernel
theorem dL_pulls_156 : decode cL_pulls 156 = .ok (.ior, 1) := by decide +kernel
theorem dL_pulls_157 : decode cL_pulls 157 = .ok (.iload 7, 2) := by decide +kernel
theorem dL_pulls_159 : decode cL_pulls 159 = .ok (.ishr, 1) := by decide +kernel
theorem dL_pulls_160 : decode cL_pulls 160 = .ok (.iconst 1, 1) := by decide +kernel
theorem dL_pulls_161 : decode cL_pulls 161 = .ok (.iand, 1) := by decide +kernel
theorem dL_pulls_162 : decode cL_pulls 162 = .ok (.if_icmp .ne 7, 3) := by decide +kernel
theorem dL_pulls_165 : decode cL_pulls 165 = .ok (.iconst 1, 1) := by decide +kernel
theorem dL_pulls_166 : decode cL_pulls 166 = .ok (.goto 4, 3) := by decide +kernel
theorem dL_pulls_169 : decode cL_pulls 169 = .ok (.iconst 0, 1) := by decide +kernel
theorem dL_pulls_170 : decode cL_pulls 170 = .ok (.istore 6, 2) := by decide +kernel
theorem dL_pulls_172 : decode cL_pulls 172 = .ok (.iinc 7 1, 3) := by decide +kernel
theorem dL_pulls_175 : decode cL_pulls 175 = .ok (.goto (-40), 3) := by decide +kernel
theorem dL_pulls_178 : decode cL_pulls 178 = .ok (.iload 6, 2) := by decide +kernel
theorem dL_pulls_180 : decode cL_pulls 180 = .ok (.ireturn, 1) := by decide +kernel
theorem dL_lay_0 : decode cL_lay 0 = .ok (.iconst 1, 1) := by decide +kernel
theorem dL_lay_1 : decode cL_lay 1 = .ok (.istore_n 2, 1) := by decide +kernel
theorem dL_lay_2 : decode cL_lay 2 = .ok (.iconst 1, 1) := by decide +kernel
theorem dL_lay_3 : decode cL_lay 3 = .ok (.istore_n 3, 1) := by decide +kernel
theorem dL_lay_4 : decode cL_lay 4 = .ok (.iload_n 3, 1) := by decide +kernel
theorem dL_lay_5 : decode cL_lay 5 = .ok (.bipush 10, 2) := by decide +kernel
theorem dL_lay_7 : decode cL_lay 7 = .ok (.if_icmp .ge 42, 3) := by decide +kernel
theorem dL_lay_10 : decode cL_lay 10 = .ok (.iload_n 1, 1) := by decide +kernel
theorem dL_lay_11 : decode cL_lay 11 = .ok (.iload_n 3, 1) := by decide +kernel
theorem dL_lay_12 : decode cL_lay 12 = .ok (.iconst 1, 1) := by decide +kernel
theorem dL_lay_13 : decode cL_lay 13 = .ok (.isub, 1) := by decide +kernel
theorem dL_lay_14 : decode cL_lay 14 = .ok (.ishr, 1) := by decide +kernel
theorem dL_lay_15 : decode cL_lay 15 = .ok (.iconst 1, 1) := by decide +kernel
theorem dL_lay_16 : decode cL_lay 16 = .ok (.iand, 1) := by decide +kernel
theorem dL_lay_17 : decode cL_lay 17 = .ok (.istore 4, 2) := by decide +kernel
theorem dL_lay_19 : decode cL_lay 19 = .ok (.aload_n 0, 1) := by decide +kernel
theorem dL_lay_20 : decode cL_lay 20 = .ok (.iload_n 3, 1) := by decide +kernel
theorem dL_lay_21 : decode cL_lay 21 = .ok (.aload_n 0, 1) := by decide +kernel
theorem dL_lay_22 : decode cL_lay 22 = .ok (.iload_n 3, 1) := by decide +kernel
theorem dL_lay_23 : decode cL_lay 23 = .ok (.iconst 1, 1) := by decide +kernel
theorem dL_lay_24 : decode cL_lay 24 = .ok (.isub, 1) := by decide +kernel
theorem dL_lay_25 : decode cL_lay 25 = .ok (.iaload, 1) := by decide +kernel
theorem dL_lay_26 : decode cL_lay 26 = .ok (.iload_n 2, 1) := by decide +kernel
theorem dL_lay_27 : decode cL_lay 27 = .ok (.iconst 1, 1) := by decide +kernel
theorem dL_lay_28 : decode cL_lay 28 = .ok (.iload 4, 2) := by decide +kernel
theorem dL_lay_30 : decode cL_lay 30 = .ok (.isub, 1) := by decide +kernel
theorem dL_lay_31 : decode cL_lay 31 = .ok (.imul, 1) := by decide +kernel
theorem dL_lay_32 : decode cL_lay 32 = .ok (.iadd, 1) := by decide +kernel
theorem dL_lay_33 : decode cL_lay 33 = .ok (.iastore, 1) := by decide +kernel
theorem dL_lay_34 : decode cL_lay 34 = .ok (.iload_n 2, 1) := by decide +kernel
theorem dL_lay_35 : decode cL_lay 35 = .ok (.iconst 2, 1) := by decide +kernel
theorem dL_lay_36 : decode cL_lay 36 = .ok (.iload_n 2, 1) := by decide +kernel
theorem dL_lay_37 : decode cL_lay 37 = .ok (.imul, 1) := by decide +kernel
theorem dL_lay_38 : decode cL_lay 38 = .ok (.iload 4, 2) := by decide +kernel
theorem dL_lay_40 : decode cL_lay 40 = .ok (.imul, 1) := by decide +kernel
theorem dL_lay_41 : decode cL_lay 41 = .ok (.isub, 1) := by decide +kernel
theorem dL_lay_42 : decode cL_lay 42 = .ok (.istore_n 2, 1) := by decide +kernel
theorem dL_lay_43 : decode cL_lay 43 = .ok (.iinc 3 1, 3) := by decide +kernel
theorem dL_lay_46 : decode cL_lay 46 = .ok (.goto (-42), 3) := by decide +kernel
theorem dL_lay_49 : decode cL_lay 49 = .ok (.return_, 1) := by decide +kernel
set_option maxRecDepth 20000 in
theorem ggL_holds_L_folded : GoodIn wsL_holds wsL_folded := goodIn_ca (goodIn_ca (goodIn_r _ [5, 6, 7, 8, 9, 10, 11, 12, 13, 14, 15, 16, 17, 18, 19, 20, 21, 22, 23, 24, 25, 26, 27, 28, 29, 30, 31, 32, 33, 34, 35, 36, 37, 38, 39, 40, 41, 42, 43, 44, 45, 46, 47, 48, 49, 50, 51, 52, 53, 54, 55, 56, 57, 58, 59, 60, 61, 62, 63, 64, 65, 194, 195, 196, 197, 198, 199, 200, 201, 202, 203, 204, 205, 206, 207, 208, 209, 210, 211, 212, 213, 214] (by decide +kernel) (by decide +kernel)) (goodIn_sub (fun _ h => List.mem_cons_of_mem _ (List.mem_append_left _ (List.mem_append_right _ h))) (by decide +kernel))) (goodIn_sub (fun _ h => List.mem_cons_of_mem _ (List.mem_append_right _ h)) (by decide +kernel))
set_option maxRecDepth 20000 in
theorem gL_holds_L_folded : GoodIn wsL_holds (va_wsS RL 51 yL_folded wsL_folded) := goodIn_app (goodIn_of _ (by decide +kernel)) ggL_holds_L_folded
set_option maxRecDepth 20000 in
theorem ggL_holds_L_lay : GoodIn wsL_holds wsL_lay := goodIn_r _ [68] (by decide +kernel) (by decide +kernel)
set_option maxRecDepth 20000 in
theorem gL_holds_L_lay : GoodIn wsL_holds (va_wsS RL 67 yL_lay wsL_lay) := goodIn_app (goodIn_of _ (by decide +kernel)) ggL_holds_L_lay
set_option maxRecDepth 20000 in
theorem ggL_holds_X6_town : GoodIn wsL_holds wsX6_town := goodIn_ca (goodIn_r _ [72, 11, 73, 74, 75, 9, 76, 19, 20, 194, 195, 196, 197, 198, 199, 200, 201, 202, 203, 204, 205, 206, 207] (by decide +kernel) (by decide +kernel)) (goodIn_sub (fun _ h => List.mem_cons_of_mem _ (List.mem_append_left _ (List.mem_append_right _ h))) (by decide +kernel))
set_option maxRecDepth 20000 in
theorem gL_holds_X6_town : GoodIn wsL_holds (wsV RL 27 RX6 yX6_town wsX6_town) := goodIn_app (goodIn_of _ (by decide +kernel)) ggL_holds_X6_town
set_option maxRecDepth 20000 in
theorem ggL_holds_X6_panelOf : GoodIn wsL_holds wsX6_panelOf := goodIn_ca (goodIn_ca (goodIn_r _ [80, 19, 20, 11, 12, 21, 22, 9, 23, 24, 25, 81, 60, 50, 61, 82, 83, 84, 85, 86, 87, 88, 89, 90, 91, 49, 51, 52, 53, 54, 55, 56, 57, 58, 59, 194, 195, 196, 197, 198, 199, 200, 201, 202, 203, 204, 205, 206, 207] (by decide +kernel) (by decide +kernel)) (goodIn_sub (fun _ h => List.mem_cons_of_mem _ (List.mem_append_left _ (List.mem_append_right _ h))) (by decide +kernel))) (goodIn_sub (fun _ h => List.mem_cons_of_mem _ (List.mem_append_right _ h)) (by decide +kernel))
set_option maxRecDepth 20000 in
theorem gL_holds_X6_panelOf : GoodIn wsL_holds (wsV RL 71 RX6 yX6_panelOf wsX6_panelOf) := goodIn_app (goodIn_of _ (by decide +kernel)) ggL_holds_X6_panelOf
set_option maxRecDepth 20000 in
theorem ggL_holds_X6_creaseOf : GoodIn wsL_holds wsX6_creaseOf := goodIn_ca (goodIn_ca (goodIn_r _ [10, 11, 12, 13, 14, 15, 16, 17, 9, 18, 19, 20, 21, 22, 23, 24, 25, 26, 27, 28, 29, 30, 31, 32, 33, 34, 35, 36, 37, 38, 39, 40, 41, 42, 43, 44, 45, 46, 47, 48, 49, 50, 51, 52, 53, 54, 55, 56, 57, 58, 59, 60, 61, 62, 63, 64, 65, 194, 195, 196, 197, 198, 199, 200, 201, 202, 203, 204, 205, 206, 207, 208, 209, 210, 211, 212, 213, 214] (by decide +kernel) (by decide +kernel)) (goodIn_sub (fun _ h => List.mem_cons_of_mem _ (List.mem_append_left _ (List.mem_append_right _ h))) (by decide +kernel))) (goodIn_sub (fun _ h => List.mem_cons_of_mem _ (List.mem_append_right _ h)) (by decide +kernel))
set_option maxRecDepth 20000 in
theorem gL_holds_X6_creaseOf : GoodIn wsL_holds (wsV RL 9 RX6 yX6_creaseOf wsX6_creaseOf) := goodIn_app (goodIn_of _ (by decide +kernel)) ggL_holds_X6_creaseOf
set_option maxRecDepth 20000 in
theorem ggL_holds_X6_between : GoodIn wsL_holds wsX6_between := goodIn_ca (goodIn_ca (goodIn_r _ [95, 11, 73, 96, 57, 54, 58, 12, 97, 74, 75, 9, 76, 19, 20, 21, 22, 23, 24, 25, 81, 60, 50, 61, 98, 49, 51, 52, 53, 55, 56, 59, 99, 100, 101, 42, 102, 103, 104, 105, 106, 44, 45, 46, 47, 194, 195, 196, 197, 198, 199, 200, 201, 202, 203, 204, 205, 206, 207, 211, 212, 213, 214] (by decide +kernel) (by decide +kernel)) (goodIn_sub (fun _ h => List.mem_cons_of_mem _ (List.mem_append_left _ (List.mem_append_right _ h))) (by decide +kernel))) (goodIn_sub (fun _ h => List.mem_cons_of_mem _ (List.mem_append_right _ h)) (by decide +kernel))
set_option maxRecDepth 20000 in
theorem gL_holds_X6_between : GoodIn wsL_holds (wsV RL 44 RX6 yX6_between wsX6_between) := goodIn_app (goodIn_of _ (by decide +kernel)) ggL_holds_X6_between
set_option maxRecDepth 20000 in
theorem ggL_holds_X6_count : GoodIn wsL_holds wsX6_count := goodIn_ca (goodIn_r _ [110, 11, 12, 14, 97, 111, 15, 112, 113, 114, 115, 116, 117, 118, 21, 22, 9, 23, 24, 25, 119, 120, 121, 122, 123, 124, 125, 126, 127, 50, 128, 52, 53, 54, 55, 129, 105, 106, 59, 60, 61, 29, 30, 31, 32, 33, 34, 35, 36, 37, 38, 39, 40, 41, 42, 43, 44, 45, 46, 47, 48, 49, 51, 56, 57, 58, 130, 131, 132, 133, 134, 135, 136, 137, 138, 139, 26, 27, 28, 194, 195, 196, 197, 198, 199, 200, 201, 202, 203, 204, 205, 206, 207, 211, 212, 213, 214, 208, 209, 210, 215, 216] (by decide +kernel) (by decide +kernel)) (goodIn_sub (fun _ h => List.mem_cons_of_mem _ (List.mem_append_right _ h)) (by decide +kernel))
set_option maxRecDepth 20000 in
theorem gL_holds_X6_count : GoodIn wsL_holds (wsV RL 20 RX6 yX6_count wsX6_count) := goodIn_app (goodIn_of _ (by decide +kernel)) ggL_holds_X6_count
set_option maxRecDepth 20000 in
theorem ggL_holds_L_bits : GoodIn wsL_holds wsL_bits := goodIn_r _ [142] (by decide +kernel) (by decide +kernel)
set_option maxRecDepth 20000 in
theorem gL_holds_L_bits : GoodIn wsL_holds (va_wsS RL 55 yL_bits wsL_bits) := goodIn_app (goodIn_of _ (by decide +kernel)) ggL_holds_L_bits
set_option maxRecDepth 20000 in
theorem ggL_holds_X6_weakest : GoodIn wsL_holds wsX6_weakest := goodIn_r _ [146, 11, 12, 13, 137, 138, 9, 139, 26, 27, 28, 194, 195, 196, 197, 198, 199, 200, 201, 202, 203, 204, 205, 206, 207] (by decide +kernel) (by decide +kernel)
set_option maxRecDepth 20000 in
theorem gL_holds_X6_weakest : GoodIn wsL_holds (wsV RL 41 RX6 yX6_weakest wsX6_weakest) := goodIn_app (goodIn_of _ (by decide +kernel)) ggL_holds_X6_weakest
set_option maxRecDepth 20000 in
theorem ggL_holds_L_areFoldings : GoodIn wsL_holds wsL_areFoldings := goodIn_ca (goodIn_ca (goodIn_r _ [149, 1, 107, 108, 109, 9, 110, 11, 12, 14, 97, 111, 15, 112, 113, 114, 115, 116, 117, 118, 21, 22, 23, 24, 25, 119, 120, 121, 122, 123, 124, 125, 126, 127, 50, 128, 52, 53, 54, 55, 129, 105, 106, 59, 60, 61, 29, 30, 31, 32, 33, 34, 35, 36, 37, 38, 39, 40, 41, 42, 43, 44, 45, 46, 47, 48, 49, 51, 56, 57, 58, 130, 131, 132, 133, 134, 135, 136, 137, 138, 139, 26, 27, 28, 150, 151, 152, 153, 154, 155, 156, 157, 158, 159, 160, 161, 66, 67, 4, 68, 92, 93, 94, 95, 73, 96, 74, 75, 76, 19, 20, 81, 98, 99, 100, 101, 102, 103, 104, 69, 70, 71, 72, 6, 7, 8, 10, 13, 16, 17, 18, 62, 63, 64, 65, 194, 195, 196, 197, 198, 199, 200, 201, 202, 203, 204, 205, 206, 207, 211, 212, 213, 214, 208, 209, 210, 215, 216] (by decide +kernel) (by decide +kernel)) (goodIn_sub (fun _ h => List.mem_cons_of_mem _ (List.mem_append_right _ h)) (by decide +kernel))) (goodIn_sub (fun _ h => List.mem_cons_of_mem _ (List.mem_append_left _ (List.mem_append_right _ h))) (by decide +kernel))
set_option maxRecDepth 20000 in
theorem gL_holds_L_areFoldings : GoodIn wsL_holds (va_wsS RL 74 yL_areFoldings wsL_areFoldings) := goodIn_app (goodIn_of _ (by decide +kernel)) ggL_holds_L_areFoldings
set_option maxRecDepth 20000 in
theorem ggL_holds_L_asks : GoodIn wsL_holds wsL_asks := goodIn_ca (goodIn_ca (goodIn_r _ [164, 165, 166, 167, 9, 168, 169, 170, 171, 172, 11, 73, 97, 99, 100, 101, 42, 102, 103, 53, 54, 55, 104, 105, 106, 44, 45, 46, 47, 173, 174, 175, 176, 15, 112, 177, 29, 30, 31, 32, 33, 34, 35, 36, 37, 38, 39, 40, 41, 43, 48, 49, 50, 51, 52, 56, 57, 58, 59, 60, 61, 178, 179, 180, 181, 182, 107, 108, 109, 110, 12, 14, 111, 113, 114, 115, 116, 117, 118, 21, 22, 23, 24, 25, 119, 120, 121, 122, 123, 124, 125, 126, 127, 128, 129, 130, 131, 132, 133, 134, 135, 136, 137, 138, 139, 26, 27, 28, 69, 70, 71, 72, 74, 75, 76, 19, 20, 92, 93, 94, 95, 96, 81, 98, 183, 184, 185, 186, 187, 188, 189, 190, 191, 4, 192, 193, 194, 195, 196, 197, 198, 199, 200, 201, 202, 203, 204, 205, 206, 207, 211, 212, 213, 214, 208, 209, 210, 215, 216] (by decide +kernel) (by decide +kernel)) (goodIn_sub (fun _ h => List.mem_cons_of_mem _ (List.mem_append_right _ h)) (by decide +kernel))) (goodIn_sub (fun _ h => List.mem_cons_of_mem _ (List.mem_append_left _ (List.mem_append_right _ h))) (by decide +kernel))
set_option maxRecDepth 20000 in
theorem gL_holds_L_asks : GoodIn wsL_holds (va_wsS RL 78 yL_asks wsL_asks) := goodIn_app (goodIn_of _ (by decide +kernel)) ggL_holds_L_asks
theorem dL_holds_0 : decode cL_holds 0 = .ok (.bipush 10, 2) := by decide +kernel
theorem dL_holds_2 : decode cL_holds 2 = .ok (.newarray .int, 2) := by decide +kernel
theorem dL_holds_4 : decode cL_holds 4 = .ok (.astore_n 2, 1) := by decide +kernel
theorem dL_holds_5 : decode cL_holds 5 = .ok (.aload_n 0, 1) := by decide +kernel
theorem dL_holds_6 : decode cL_holds 6 = .ok (.invokestatic 51, 3) := by decide +kernel
theorem dL_holds_9 : decode cL_holds 9 = .ok (.istore_n 3, 1) := by decide +kernel
theorem dL_holds_10 : decode cL_holds 10 = .ok (.iconst 0, 1) := by decide +kernel
theorem dL_holds_11 : decode cL_holds 11 = .ok (.istore 4, 2) := by decide +kernel
theorem dL_holds_13 : decode cL_holds 13 = .ok (.iconst 0, 1) := by decide +kernel
theorem dL_holds_14 : decode cL_holds 14 = .ok (.istore 5, 2) := by decide +kernel
theorem dL_holds_16 : decode cL_holds 16 = .ok (.iconst 0, 1) := by decide +kernel
theorem dL_holds_17 : decode cL_holds 17 = .ok (.istore 6, 2) := by decide +kernel
theorem dL_holds_19 : decode cL_holds 19 = .ok (.iconst (-1), 1) := by decide +kernel
theorem dL_holds_20 : decode cL_holds 20 = .ok (.istore 7, 2) := by decide +kernel
theorem dL_holds_22 : decode cL_holds 22 = .ok (.iconst 1, 1) := by decide +kernel
theorem dL_holds_23 : decode cL_holds 23 = .ok (.istore 8, 2) := by decide +kernel
theorem dL_holds_25 : decode cL_holds 25 = .ok (.aload_n 2, 1) := by decide +kernel
theorem dL_holds_26 : decode cL_holds 26 = .ok (.iload_n 3, 1) := by decide +kernel
theorem dL_holds_27 : decode cL_holds 27 = .ok (.invokestatic 67, 3) := by decide +kernel
theorem dL_holds_30 : decode cL_holds 30 = .ok (.iconst 0, 1) := by decide +kernel
theorem dL_holds_31 : decode cL_holds 31 = .ok (.istore 9, 2) := by decide +kernel
theorem dL_holds_33 : decode cL_holds 33 = .ok (.iload 9, 2) := by decide +kernel
theorem dL_holds_35 : decode cL_holds 35 = .ok (.bipush 10, 2) := by decide +kernel
theorem dL_holds_37 : decode cL_holds 37 = .ok (.if_icmp .ge 185, 3) := by decide +kernel
theorem dL_holds_40 : decode cL_holds 40 = .ok (.iload 8, 2) := by decide +kernel
theorem dL_holds_42 : decode cL_holds 42 = .ok (.ifCond .eq 180, 3) := by decide +kernel
theorem dL_holds_45 : decode cL_holds 45 = .ok (.iconst 0, 1) := by decide +kernel
theorem dL_holds_46 : decode cL_holds 46 = .ok (.istore 10, 2) := by decide +kernel
theorem dL_holds_48 : decode cL_holds 48 = .ok (.iconst 0, 1) := by decide +kernel
theorem dL_holds_49 : decode cL_holds 49 = .ok (.istore 11, 2) := by decide +kernel
theorem dL_holds_51 : decode cL_holds 51 = .ok (.iconst 0, 1) := by decide +kernel
theorem dL_holds_52 : decode cL_holds 52 = .ok (.istore 12, 2) := by decide +kernel
theorem dL_holds_54 : decode cL_holds 54 = .ok (.iload 12, 2) := by decide +kernel
theorem dL_holds_56 : decode cL_holds 56 = .ok (.bipush 6, 2) := by decide +kernel
theorem dL_holds_58 : decode cL_holds 58 = .ok (.if_icmp .ge 33, 3) := by decide +kernel
theorem dL_holds_61 : decode cL_holds 61 = .ok (.iload 10, 2) := by decide +kernel
theorem dL_holds_63 : decode cL_holds 63 = .ok (.aload_n 0, 1) := by decide +kernel
theorem dL_holds_64 : decode cL_holds 64 = .ok (.iload 12, 2) := by decide +kernel
theorem dL_holds_66 : decode cL_holds 66 = .ok (.invokevirtual 27, 3) := by decide +kernel
theorem dL_holds_69 : decode cL_holds 69 = .ok (.iload 9, 2) := by decide +kernel
theorem dL_holds_71 : decode cL_holds 71 = .ok (.if_icmp .ne 10, 3) := by decide +kernel
theorem dL_holds_74 : decode cL_holds 74 = .ok (.iconst 1, 1) := by decide +kernel
theorem dL_holds_75 : decode cL_holds 75 = .ok (.iload 12, 2) := by decide +kernel
theorem dL_holds_77 : decode cL_holds 77 = .ok (.ishl, 1) := by decide +kernel
theorem dL_holds_78 : decode cL_holds 78 = .ok (.goto 4, 3) := by decide +kernel
theorem dL_holds_81 : decode cL_holds 81 = .ok (.iconst 0, 1) := by decide +kernel
theorem dL_holds_82 : decode cL_holds 82 = .ok (.ior, 1) := by decide +kernel
theorem dL_holds_83 : decode cL_holds 83 = .ok (.istore 10, 2) := by decide +kernel
theorem dL_holds_85 : decode cL_holds 85 = .ok (.iinc 12 1, 3) := by decide +kernel
theorem dL_holds_88 : decode cL_holds 88 = .ok (.goto (-34), 3) := by decide +kernel
theorem dL_holds_91 : decode cL_holds 91 = .ok (.iconst 0, 1) := by decide +kernel
theorem dL_holds_92 : decode cL_holds 92 = .ok (.istore 12, 2) := by decide +kernel
theorem dL_holds_94 : decode cL_holds 94 = .ok (.iload 12, 2) := by decide +kernel
theorem dL_holds_96 : decode cL_holds 96 = .ok (.bipush 10, 2) := by decide +kernel
theorem dL_holds_98 : decode cL_holds 98 = .ok (.if_icmp .ge 30, 3) := by decide +kernel
theorem dL_holds_101 : decode cL_holds 101 = .ok (.iload 11, 2) := by decide +kernel
theorem dL_holds_103 : decode cL_holds 103 = .ok (.aload_n 2, 1) := by decide +kernel
theorem dL_holds_104 : decode cL_holds 104 = .ok (.iload 12, 2) := by decide +kernel
theorem dL_holds_106 : decode cL_holds 106 = .ok (.iaload, 1) := by decide +kernel
theorem dL_holds_107 : decode cL_holds 107 = .ok (.aload_n 2, 1) := by decide +kernel
theorem dL_holds_108 : decode cL_holds 108 = .ok (.iload 9, 2) := by decide +kernel
theorem dL_holds_110 : decode cL_holds 110 = .ok (.iaload, 1) := by decide +kernel
theorem dL_holds_111 : decode cL_holds 111 = .ok (.if_icmp .ne 7, 3) := by decide +kernel
theorem dL_holds_114 : decode cL_holds 114 = .ok (.iconst 1, 1) := by decide +kernel
theorem dL_holds_115 : decode cL_holds 115 = .ok (.goto 4, 3) := by decide +kernel
theorem dL_holds_118 : decode cL_holds 118 = .ok (.iconst 0, 1) := by decide +kernel
theorem dL_holds_119 : decode cL_holds 119 = .ok (.iadd, 1) := by decide +kernel
theorem dL_holds_120 : decode cL_holds 120 = .ok (.istore 11, 2) := by decide +kernel
theorem dL_holds_122 : decode cL_holds 122 = .ok (.iinc 12 1, 3) := by decide +kernel
theorem dL_holds_125 : decode cL_holds 125 = .ok (.goto (-31), 3) := by decide +kernel
theorem dL_holds_128 : decode cL_holds 128 = .ok (.aload_n 2, 1) := by decide +kernel
theorem dL_holds_129 : decode cL_holds 129 = .ok (.iload 9, 2) := by decide +kernel
theorem dL_holds_131 : decode cL_holds 131 = .ok (.iaload, 1) := by decide +kernel
theorem dL_holds_132 : decode cL_holds 132 = .ok (.iload 5, 2) := by decide +kernel
theorem dL_holds_134 : decode cL_holds 134 = .ok (.if_icmp .ge 10, 3) := by decide +kernel
theorem dL_holds_137 : decode cL_holds 137 = .ok (.aload_n 2, 1) := by decide +kernel
theorem dL_holds_138 : decode cL_holds 138 = .ok (.iload 9, 2) := by decide +kernel
theorem dL_holds_140 : decode cL_holds 140 = .ok (.iaload, 1) := by decide +kernel
theorem dL_holds_141 : decode cL_holds 141 = .ok (.goto 5, 3) := by decide +kernel
theorem dL_holds_144 : decode cL_holds 144 = .ok (.iload 5, 2) := by decide +kernel
theorem dL_holds_146 : decode cL_holds 146 = .ok (.istore 5, 2) := by decide +kernel
theorem dL_holds_148 : decode cL_holds 148 = .ok (.aload_n 2, 1) := by decide +kernel
theorem dL_holds_149 : decode cL_holds 149 = .ok (.iload 9, 2) := by decide +kernel
theorem dL_holds_151 : decode cL_holds 151 = .ok (.iaload, 1) := by decide +kernel
theorem dL_holds_152 : decode cL_holds 152 = .ok (.iload 6, 2) := by decide +kernel
theorem dL_holds_154 : decode cL_holds 154 = .ok (.if_icmp .le 10, 3) := by decide +kernel
theorem dL_holds_157 : decode cL_holds 157 = .ok (.aload_n 2, 1) := by decide +kernel
theorem dL_holds_158 : decode cL_holds 158 = .ok (.iload 9, 2) := by decide +kernel
theorem dL_holds_160 : decode cL_holds 160 = .ok (.iaload, 1) := by decide +kernel
theorem dL_holds_161 : decode cL_holds 161 = .ok (.goto 5, 3) := by decide +kernel
theorem dL_holds_164 : decode cL_holds 164 = .ok (.iload 6, 2) := by decide +kernel
theorem dL_holds_166 : decode cL_holds 166 = .ok (.istore 6, 2) := by decide +kernel
theorem dL_holds_168 : decode cL_holds 168 = .ok (.aload_n 0, 1) := by decide +kernel
theorem dL_holds_169 : decode cL_holds 169 = .ok (.iload 9, 2) := by decide +kernel
theorem dL_holds_171 : decode cL_holds 171 = .ok (.iconst 0, 1) := by decide +kernel
theorem dL_holds_172 : decode cL_holds 172 = .ok (.invokevirtual 71, 3) := by decide +kernel
theorem dL_holds_175 : decode cL_holds 175 = .ok (.aload_n 2, 1) := by decide +kernel
theorem dL_holds_176 : decode cL_holds 176 = .ok (.iload 9, 2) := by decide +kernel
theorem dL_holds_178 : decode cL_holds 178 = .ok (.iaload, 1) := by decide +kernel
theorem dL_holds_179 : decode cL_holds 179 = .ok (.bipush 100, 2) := by decide +kernel
theorem dL_holds_181 : decode cL_holds 181 = .ok (.iadd, 1) := by decide +kernel
theorem dL_holds_182 : decode cL_holds 182 = .ok (.if_icmp .ne 31, 3) := by decide +kernel
theorem dL_holds_185 : decode cL_holds 185 = .ok (.aload_n 0, 1) := by decide +kernel
theorem dL_holds_186 : decode cL_holds 186 = .ok (.iload 9, 2) := by decide +kernel
theorem dL_holds_188 : decode cL_holds 188 = .ok (.iconst 1, 1) := by decide +kernel
theorem dL_holds_189 : decode cL_holds 189 = .ok (.invokevirtual 71, 3) := by decide +kernel
theorem dL_holds_192 : decode cL_holds 192 = .ok (.iload 10, 2) := by decide +kernel
theorem dL_holds_194 : decode cL_holds 194 = .ok (.if_icmp .ne 19, 3) := by decide +kernel
theorem dL_holds_197 : decode cL_holds 197 = .ok (.aload_n 0, 1) := by decide +kernel
theorem dL_holds_198 : decode cL_holds 198 = .ok (.iload 9, 2) := by decide +kernel
theorem dL_holds_200 : decode cL_holds 200 = .ok (.iconst 2, 1) := by decide +kernel
theorem dL_holds_201 : decode cL_holds 201 = .ok (.invokevirtual 71, 3) := by decide +kernel
theorem dL_holds_204 : decode cL_holds 204 = .ok (.iload 11, 2) := by decide +kernel
theorem dL_holds_206 : decode cL_holds 206 = .ok (.if_icmp .ne 7, 3) := by decide +kernel
