theorem dL_cell_0 : decode cL_cell 0 = .ok (.iload_n 1, 1) := by decide +kernel
theorem dL_cell_1 : decode cL_cell 1 = .ok (.aload_n 0, 1) := by decide +kernel
theorem dL_cell_2 : decode cL_cell 2 = .ok (.arraylength, 1) := by decide +kernel
theorem dL_cell_3 : decode cL_cell 3 = .ok (.if_icmp .ge 9, 3) := by decide +kernel
theorem dL_cell_6 : decode cL_cell 6 = .ok (.aload_n 0, 1) := by decide +kernel
theorem dL_cell_7 : decode cL_cell 7 = .ok (.iload_n 1, 1) := by decide +kernel
theorem dL_cell_8 : decode cL_cell 8 = .ok (.iaload, 1) := by decide +kernel
theorem dL_cell_9 : decode cL_cell 9 = .ok (.goto 15, 3) := by decide +kernel
theorem dL_cell_12 : decode cL_cell 12 = .ok (.sipush 7919, 3) := by decide +kernel
theorem dL_cell_15 : decode cL_cell 15 = .ok (.iload_n 1, 1) := by decide +kernel
theorem dL_cell_16 : decode cL_cell 16 = .ok (.iconst 3, 1) := by decide +kernel
theorem dL_cell_17 : decode cL_cell 17 = .ok (.iadd, 1) := by decide +kernel
theorem dL_cell_18 : decode cL_cell 18 = .ok (.imul, 1) := by decide +kernel
theorem dL_cell_19 : decode cL_cell 19 = .ok (.iload_n 1, 1) := by decide +kernel
theorem dL_cell_20 : decode cL_cell 20 = .ok (.bipush 11, 2) := by decide +kernel
theorem dL_cell_22 : decode cL_cell 22 = .ok (.iadd, 1) := by decide +kernel
theorem dL_cell_23 : decode cL_cell 23 = .ok (.imul, 1) := by decide +kernel
theorem dL_cell_24 : decode cL_cell 24 = .ok (.ireturn, 1) := by decide +kernel
theorem dL_low_0 : decode cL_low 0 = .ok (.iload_n 0, 1) := by decide +kernel
theorem dL_low_1 : decode cL_low 1 = .ok (.ldc 7, 2) := by decide +kernel
theorem dL_low_3 : decode cL_low 3 = .ok (.iand, 1) := by decide +kernel
theorem dL_low_4 : decode cL_low 4 = .ok (.iload_n 1, 1) := by decide +kernel
theorem dL_low_5 : decode cL_low 5 = .ok (.irem, 1) := by decide +kernel
theorem dL_low_6 : decode cL_low 6 = .ok (.ireturn, 1) := by decide +kernel
theorem dL_needs_0 : decode cL_needs 0 = .ok (.iload_n 0, 1) := by decide +kernel
theorem dL_needs_1 : decode cL_needs 1 = .ok (.ifCond .ge 8, 3) := by decide +kernel
theorem dL_needs_4 : decode cL_needs 4 = .ok (.iload_n 0, 1) := by decide +kernel
theorem dL_needs_5 : decode cL_needs 5 = .ok (.ineg, 1) := by decide +kernel
theorem dL_needs_6 : decode cL_needs 6 = .ok (.goto 4, 3) := by decide +kernel
theorem dL_needs_9 : decode cL_needs 9 = .ok (.iload_n 0, 1) := by decide +kernel
theorem dL_needs_10 : decode cL_needs 10 = .ok (.istore_n 2, 1) := by decide +kernel
theorem dL_needs_11 : decode cL_needs 11 = .ok (.iload_n 0, 1) := by decide +kernel
theorem dL_needs_12 : decode cL_needs 12 = .ok (.ifCond .ge 7, 3) := by decide +kernel
theorem dL_needs_15 : decode cL_needs 15 = .ok (.iconst 1, 1) := by decide +kernel
theorem dL_needs_16 : decode cL_needs 16 = .ok (.goto 4, 3) := by decide +kernel
theorem dL_needs_19 : decode cL_needs 19 = .ok (.iconst 0, 1) := by decide +kernel
theorem dL_needs_20 : decode cL_needs 20 = .ok (.iload_n 1, 1) := by decide +kernel
theorem dL_needs_21 : decode cL_needs 21 = .ok (.iconst 2, 1) := by decide +kernel
theorem dL_needs_22 : decode cL_needs 22 = .ok (.if_icmp .ge 7, 3) := by decide +kernel
theorem dL_needs_25 : decode cL_needs 25 = .ok (.iconst 1, 1) := by decide +kernel
theorem dL_needs_26 : decode cL_needs 26 = .ok (.goto 4, 3) := by decide +kernel
theorem dL_needs_29 : decode cL_needs 29 = .ok (.iconst 0, 1) := by decide +kernel
theorem dL_needs_30 : decode cL_needs 30 = .ok (.if_icmp .ne 7, 3) := by decide +kernel
theorem dL_needs_33 : decode cL_needs 33 = .ok (.iconst 0, 1) := by decide +kernel
theorem dL_needs_34 : decode cL_needs 34 = .ok (.goto 20, 3) := by decide +kernel
theorem dL_needs_37 : decode cL_needs 37 = .ok (.iload_n 1, 1) := by decide +kernel
theorem dL_needs_38 : decode cL_needs 38 = .ok (.iconst 2, 1) := by decide +kernel
theorem dL_needs_39 : decode cL_needs 39 = .ok (.irem, 1) := by decide +kernel
theorem dL_needs_40 : decode cL_needs 40 = .ok (.ifCond .ne 10, 3) := by decide +kernel
theorem dL_needs_43 : decode cL_needs 43 = .ok (.iload_n 2, 1) := by decide +kernel
theorem dL_needs_44 : decode cL_needs 44 = .ok (.bipush 16, 2) := by decide +kernel
theorem dL_needs_46 : decode cL_needs 46 = .ok (.irem, 1) := by decide +kernel
theorem dL_needs_47 : decode cL_needs 47 = .ok (.goto 7, 3) := by decide +kernel
theorem dL_needs_50 : decode cL_needs 50 = .ok (.iload_n 2, 1) := by decide +kernel
theorem dL_needs_51 : decode cL_needs 51 = .ok (.bipush 16, 2) := by decide +kernel
theorem dL_needs_53 : decode cL_needs 53 = .ok (.idiv, 1) := by decide +kernel
theorem dL_needs_54 : decode cL_needs 54 = .ok (.ireturn, 1) := by decide +kernel
set_option maxRecDepth 20000 in
theorem ggL_misfits_X5_rowOf : GoodIn wsL_misfits wsX5_rowOf := goodIn_ca (goodIn_r _ [5, 6, 7, 8, 9, 10, 11, 4, 12, 13, 14, 15, 16, 17, 18, 56, 57, 58, 59, 60, 61, 62, 63, 64, 65, 66, 67, 68, 69] (by decide +kernel) (by decide +kernel)) (goodIn_sub (fun _ h => List.mem_cons_of_mem _ (List.mem_append_right _ h)) (by decide +kernel))
set_option maxRecDepth 20000 in
theorem gL_misfits_X5_rowOf : GoodIn wsL_misfits (wsV RL 8 RX5 yX5_rowOf wsX5_rowOf) := goodIn_app (goodIn_of _ (by decide +kernel)) ggL_misfits_X5_rowOf
set_option maxRecDepth 20000 in
theorem ggL_misfits_L_needs : GoodIn wsL_misfits wsL_needs := goodIn_r _ [22] (by decide +kernel) (by decide +kernel)
set_option maxRecDepth 20000 in
theorem gL_misfits_L_needs : GoodIn wsL_misfits (va_wsS RL 14 yL_needs wsL_needs) := goodIn_app (goodIn_of _ (by decide +kernel)) ggL_misfits_L_needs
set_option maxRecDepth 20000 in
theorem ggL_misfits_X5_cell : GoodIn wsL_misfits wsX5_cell := goodIn_ca (goodIn_r _ [26, 27, 28, 29, 30, 31, 32, 33, 34, 4, 35, 13, 14, 36, 16, 17, 18, 37, 38, 39, 40, 41, 42, 43, 44, 45, 46, 47, 48, 49, 50, 51, 52, 53, 54, 55, 70, 71, 72, 73, 74, 75, 76, 77, 78, 79, 80, 81, 64, 65, 66, 67, 68, 69, 82, 83, 84] (by decide +kernel) (by decide +kernel)) (goodIn_sub (fun _ h => List.mem_cons_of_mem _ (List.mem_append_right _ h)) (by decide +kernel))
set_option maxRecDepth 20000 in
theorem gL_misfits_X5_cell : GoodIn wsL_misfits (wsV RL 19 RX5 yX5_cell wsX5_cell) := goodIn_app (goodIn_of _ (by decide +kernel)) ggL_misfits_X5_cell
theorem dL_misfits_0 : decode cL_misfits 0 = .ok (.iconst 0, 1) := by decide +kernel
theorem dL_misfits_1 : decode cL_misfits 1 = .ok (.istore 6, 2) := by decide +kernel
theorem dL_misfits_3 : decode cL_misfits 3 = .ok (.iconst 0, 1) := by decide +kernel
theorem dL_misfits_4 : decode cL_misfits 4 = .ok (.istore 7, 2) := by decide +kernel
theorem dL_misfits_6 : decode cL_misfits 6 = .ok (.iload 7, 2) := by decide +kernel
theorem dL_misfits_8 : decode cL_misfits 8 = .ok (.iload 4, 2) := by decide +kernel
theorem dL_misfits_10 : decode cL_misfits 10 = .ok (.if_icmp .ge 100, 3) := by decide +kernel
theorem dL_misfits_13 : decode cL_misfits 13 = .ok (.iconst 0, 1) := by decide +kernel
theorem dL_misfits_14 : decode cL_misfits 14 = .ok (.istore 8, 2) := by decide +kernel
theorem dL_misfits_16 : decode cL_misfits 16 = .ok (.iload 8, 2) := by decide +kernel
theorem dL_misfits_18 : decode cL_misfits 18 = .ok (.iconst 4, 1) := by decide +kernel
theorem dL_misfits_19 : decode cL_misfits 19 = .ok (.iload 5, 2) := by decide +kernel
theorem dL_misfits_21 : decode cL_misfits 21 = .ok (.imul, 1) := by decide +kernel
theorem dL_misfits_22 : decode cL_misfits 22 = .ok (.if_icmp .ge 82, 3) := by decide +kernel
theorem dL_misfits_25 : decode cL_misfits 25 = .ok (.aload_n 0, 1) := by decide +kernel
theorem dL_misfits_26 : decode cL_misfits 26 = .ok (.iload_n 2, 1) := by decide +kernel
theorem dL_misfits_27 : decode cL_misfits 27 = .ok (.iload 7, 2) := by decide +kernel
theorem dL_misfits_29 : decode cL_misfits 29 = .ok (.invokevirtual 8, 3) := by decide +kernel
theorem dL_misfits_32 : decode cL_misfits 32 = .ok (.istore 9, 2) := by decide +kernel
theorem dL_misfits_34 : decode cL_misfits 34 = .ok (.aload_n 1, 1) := by decide +kernel
theorem dL_misfits_35 : decode cL_misfits 35 = .ok (.bipush 32, 2) := by decide +kernel
theorem dL_misfits_37 : decode cL_misfits 37 = .ok (.iload_n 2, 1) := by decide +kernel
theorem dL_misfits_38 : decode cL_misfits 38 = .ok (.imul, 1) := by decide +kernel
theorem dL_misfits_39 : decode cL_misfits 39 = .ok (.iconst 4, 1) := by decide +kernel
theorem dL_misfits_40 : decode cL_misfits 40 = .ok (.iload 7, 2) := by decide +kernel
theorem dL_misfits_42 : decode cL_misfits 42 = .ok (.imul, 1) := by decide +kernel
theorem dL_misfits_43 : decode cL_misfits 43 = .ok (.iadd, 1) := by decide +kernel
theorem dL_misfits_44 : decode cL_misfits 44 = .ok (.iload 8, 2) := by decide +kernel
theorem dL_misfits_46 : decode cL_misfits 46 = .ok (.iconst 4, 1) := by decide +kernel
theorem dL_misfits_47 : decode cL_misfits 47 = .ok (.idiv, 1) := by decide +kernel
theorem dL_misfits_48 : decode cL_misfits 48 = .ok (.iadd, 1) := by decide +kernel
theorem dL_misfits_49 : decode cL_misfits 49 = .ok (.iaload, 1) := by decide +kernel
theorem dL_misfits_50 : decode cL_misfits 50 = .ok (.iload 8, 2) := by decide +kernel
theorem dL_misfits_52 : decode cL_misfits 52 = .ok (.iconst 4, 1) := by decide +kernel
theorem dL_misfits_53 : decode cL_misfits 53 = .ok (.irem, 1) := by decide +kernel
theorem dL_misfits_54 : decode cL_misfits 54 = .ok (.invokestatic 14, 3) := by decide +kernel
theorem dL_misfits_57 : decode cL_misfits 57 = .ok (.istore 10, 2) := by decide +kernel
theorem dL_misfits_59 : decode cL_misfits 59 = .ok (.iload 6, 2) := by decide +kernel
theorem dL_misfits_61 : decode cL_misfits 61 = .ok (.aload_n 0, 1) := by decide +kernel
theorem dL_misfits_62 : decode cL_misfits 62 = .ok (.iload_n 3, 1) := by decide +kernel
theorem dL_misfits_63 : decode cL_misfits 63 = .ok (.iload 9, 2) := by decide +kernel
theorem dL_misfits_65 : decode cL_misfits 65 = .ok (.iload 8, 2) := by decide +kernel
theorem dL_misfits_67 : decode cL_misfits 67 = .ok (.iconst 4, 1) := by decide +kernel
theorem dL_misfits_68 : decode cL_misfits 68 = .ok (.invokevirtual 19, 3) := by decide +kernel
theorem dL_misfits_71 : decode cL_misfits 71 = .ok (.iconst 1, 1) := by decide +kernel
theorem dL_misfits_72 : decode cL_misfits 72 = .ok (.if_icmp .ne 22, 3) := by decide +kernel
theorem dL_misfits_75 : decode cL_misfits 75 = .ok (.aload_n 0, 1) := by decide +kernel
theorem dL_misfits_76 : decode cL_misfits 76 = .ok (.iload_n 3, 1) := by decide +kernel
theorem dL_misfits_77 : decode cL_misfits 77 = .ok (.iload 9, 2) := by decide +kernel
theorem dL_misfits_79 : decode cL_misfits 79 = .ok (.iload 8, 2) := by decide +kernel
theorem dL_misfits_81 : decode cL_misfits 81 = .ok (.iconst 0, 1) := by decide +kernel
theorem dL_misfits_82 : decode cL_misfits 82 = .ok (.invokevirtual 19, 3) := by decide +kernel
theorem dL_misfits_85 : decode cL_misfits 85 = .ok (.iload 10, 2) := by decide +kernel
theorem dL_misfits_87 : decode cL_misfits 87 = .ok (.if_icmp .eq 7, 3) := by decide +kernel
theorem dL_misfits_90 : decode cL_misfits 90 = .ok (.iconst 1, 1) := by decide +kernel
theorem dL_misfits_91 : decode cL_misfits 91 = .ok (.goto 4, 3) := by decide +kernel
theorem dL_misfits_94 : decode cL_misfits 94 = .ok (.iconst 0, 1) := by decide +kernel
theorem dL_misfits_95 : decode cL_misfits 95 = .ok (.iadd, 1) := by decide +kernel
theorem dL_misfits_96 : decode cL_misfits 96 = .ok (.istore 6, 2) := by decide +kernel
theorem dL_misfits_98 : decode cL_misfits 98 = .ok (.iinc 8 1, 3) := by decide +kernel
theorem dL_misfits_101 : decode cL_misfits 101 = .ok (.goto (-85), 3) := by decide +kernel
theorem dL_misfits_104 : decode cL_misfits 104 = .ok (.iinc 7 1, 3) := by decide +kernel
theorem dL_misfits_107 : decode cL_misfits 107 = .ok (.goto (-101), 3) := by decide +kernel
theorem dL_misfits_110 : decode cL_misfits 110 = .ok (.iload 6, 2) := by decide +kernel
theorem dL_misfits_112 : decode cL_misfits 112 = .ok (.ireturn, 1) := by decide +kernel
set_option maxRecDepth 20000 in
theorem ggL_law_X5_init : GoodIn wsL_law wsX5_init := goodIn_r _ [9, 10, 11, 12, 13, 14, 15, 16, 17, 18, 19, 20, 21, 22, 23, 24, 25, 26, 27, 28, 29, 30, 31, 32, 33, 34, 35, 36, 37, 38, 39, 40, 3, 41, 42, 43, 44, 45, 46, 47, 48, 49, 50, 51, 52, 53, 54, 55, 56, 57, 58, 59, 60, 61, 62, 63, 64, 65, 456, 457, 458, 450, 451, 452, 453, 454, 455, 459, 460, 461, 462, 463, 464, 465, 466, 467, 468, 469, 470, 471, 472, 473, 474, 475] (by decide +kernel) (by decide +kernel)
set_option maxRecDepth 20000 in
theorem gL_law_X5_init : GoodIn wsL_law (wsX5_init) := ggL_law_X5_init
set_option maxRecDepth 20000 in
theorem ggL_law_L_cell : GoodIn wsL_law wsL_cell := goodIn_r _ [69] (by decide +kernel) (by decide +kernel)
set_option maxRecDepth 20000 in
theorem gL_law_L_cell : GoodIn wsL_law (va_wsS RL 24 yL_cell wsL_cell) := goodIn_app (goodIn_of _ (by decide +kernel)) ggL_law_L_cell
set_option maxRecDepth 20000 in
theorem ggL_law_L_low : GoodIn wsL_law wsL_low := goodIn_r _ [72, 73] (by decide +kernel) (by decide +kernel)
set_option maxRecDepth 20000 in
theorem gL_law_L_low : GoodIn wsL_law (va_wsS RL 27 yL_low wsL_low) := goodIn_app (goodIn_of _ (by decide +kernel)) ggL_law_L_low
set_option maxRecDepth 20000 in
theorem ggL_law_X5_layer : GoodIn wsL_law wsX5_layer := goodIn_ca (goodIn_ca (goodIn_r _ [77, 78, 79, 29, 20, 19, 80, 81, 82, 83, 2, 84, 85, 86, 87, 88, 89, 90, 11, 12, 3, 91, 92, 93, 94, 95, 96, 97, 98, 450, 451, 452, 453, 454, 455, 476, 477, 478, 479, 480, 481, 482, 483] (by decide +kernel) (by decide +kernel)) (goodIn_sub (fun _ h => List.mem_append_left _ (List.mem_append_left _ (List.mem_append_right _ h))) (by decide +kernel))) (goodIn_sub (fun _ h => List.mem_append_left _ (List.mem_append_right _ h)) (by decide +kernel))
set_option maxRecDepth 20000 in
theorem gL_law_X5_layer : GoodIn wsL_law (wsV RL 30 RX5 yX5_layer wsX5_layer) := goodIn_app (goodIn_of _ (by decide +kernel)) ggL_law_X5_layer
set_option maxRecDepth 20000 in
theorem ggL_law_X5_next : GoodIn wsL_law wsX5_next := goodIn_ca (goodIn_ca (goodIn_r _ [102, 85, 86, 103, 104, 105, 106, 107, 2, 108, 109, 110, 20, 111, 112, 113, 81, 114, 96, 97, 98, 476, 477, 478, 479, 480, 481, 482, 483, 450, 451, 452, 453, 454, 455] (by decide +kernel) (by decide +kernel)) (goodIn_sub (fun _ h => List.mem_append_left _ (List.mem_append_right _ h)) (by decide +kernel))) (goodIn_sub (fun _ h => List.mem_append_right _ h) (by decide +kernel))
set_option maxRecDepth 20000 in
theorem gL_law_X5_next : GoodIn wsL_law (wsV RL 33 RX5 yX5_next wsX5_next) := goodIn_app (goodIn_of _ (by decide +kernel)) ggL_law_X5_next
set_option maxRecDepth 20000 in
theorem ggL_law_X5_place : GoodIn wsL_law wsX5_place := goodIn_ca (goodIn_ca (goodIn_r _ [118, 78, 79, 119, 120, 24, 16, 105, 106, 107, 2, 108, 109, 110, 20, 121, 122, 123, 124, 18, 125, 126, 127, 23, 128, 129, 41, 130, 131, 132, 81, 133, 134, 135, 136, 137, 98, 138, 139, 140, 141, 142, 143, 144, 145, 91, 146, 147, 148, 31, 149, 58, 53, 150, 151, 152, 153, 154, 155, 156, 157, 158, 159, 160, 42, 161, 162, 163, 164, 165, 166, 167, 168, 169, 170, 171, 172, 173, 174, 175, 176, 177, 178, 179, 180, 181, 182, 183, 184, 185, 186, 187, 97, 92, 188, 189, 190, 191, 57, 55, 192, 193, 194, 195, 196, 197, 198, 199, 200, 201, 202, 203, 204, 205, 206, 207, 54, 476, 477, 478, 479, 480, 481, 482, 483, 464, 465, 466, 467, 468, 469, 470, 471, 472, 473, 474, 475, 450, 451, 452, 453, 454, 455, 459, 460, 456, 457, 458] (by decide +kernel) (by decide +kernel)) (goodIn_sub (fun _ h => List.mem_append_left _ (List.mem_append_left _ (List.mem_append_right _ h))) (by decide +kernel))) (goodIn_sub (fun _ h => List.mem_append_right _ h) (by decide +kernel))
set_option maxRecDepth 20000 in
theorem gL_law_X5_place : GoodIn wsL_law (wsV RL 36 RX5 yX5_place wsX5_place) := goodIn_app (goodIn_of _ (by decide +kernel)) ggL_law_X5_place
set_option maxRecDepth 20000 in
theorem ggL_law_X5_isTrue : GoodIn wsL_law wsX5_isTrue := goodIn_ca (goodIn_r _ [211, 119, 16, 105, 106, 107, 2, 108, 109, 110, 20, 212, 213, 214, 81, 215, 97, 92, 134, 135, 136, 137, 98, 216, 195, 196, 31, 197, 198, 57, 53, 192, 55, 199, 200, 174, 201, 150, 151, 202, 203, 138, 139, 140, 141, 142, 143, 144, 145, 91, 476, 477, 478, 479, 480, 481, 482, 483, 450, 451, 452, 453, 454, 455, 456, 457, 458, 464, 465, 466, 467, 468, 469, 470, 471, 472, 473, 474, 475] (by decide +kernel) (by decide +kernel)) (goodIn_sub (fun _ h => List.mem_append_right _ h) (by decide +kernel))
set_option maxRecDepth 20000 in
theorem gL_law_X5_isTrue : GoodIn wsL_law (wsV RL 39 RX5 yX5_isTrue wsX5_isTrue) := goodIn_app (goodIn_of _ (by decide +kernel)) ggL_law_X5_isTrue
set_option maxRecDepth 20000 in
theorem ggL_law_X5_shift : GoodIn wsL_law wsX5_shift := goodIn_ca (goodIn_ca (goodIn_r _ [220, 221, 105, 106, 107, 2, 108, 109, 110, 20, 82, 83, 84, 85, 86, 476, 477, 478, 479, 480, 481, 482, 483, 450, 451, 452, 453, 454, 455] (by decide +kernel) (by decide +kernel)) (goodIn_sub (fun _ h => List.mem_append_right _ h) (by decide +kernel))) (goodIn_sub (fun _ h => List.mem_append_left _ (List.mem_append_right _ h)) (by decide +kernel))
set_option maxRecDepth 20000 in
theorem gL_law_X5_shift : GoodIn wsL_law (wsV RL 43 RX5 yX5_shift wsX5_shift) := goodIn_app (goodIn_of _ (by decide +kernel)) ggL_law_X5_shift
set_option maxRecDepth 20000 in
theorem ggL_law_X5_weight : GoodIn wsL_law wsX5_weight := goodIn_ca (goodIn_ca (goodIn_r _ [225, 226, 227, 105, 106, 107, 2, 108, 109, 110, 20, 228, 229, 230, 82, 83, 84, 85, 86, 231, 143, 144, 81, 145, 91, 232, 233, 234, 235, 476, 477, 478, 479, 480, 481, 482, 483, 450, 451, 452, 453, 454, 455] (by decide +kernel) (by decide +kernel)) (goodIn_sub (fun _ h => List.mem_append_right _ h) (by decide +kernel))) (goodIn_sub (fun _ h => List.mem_append_left _ (List.mem_append_right _ h)) (by decide +kernel))
set_option maxRecDepth 20000 in
theorem gL_law_X5_weight : GoodIn wsL_law (wsV RL 46 RX5 yX5_weight wsX5_weight) := goodIn_app (goodIn_of _ (by decide +kernel)) ggL_law_X5_weight
set_option maxRecDepth 20000 in
theorem ggL_law_X5_load : GoodIn wsL_law wsX5_load := goodIn_ca (goodIn_ca (goodIn_r _ [239, 16, 105, 106, 107, 2, 108, 109, 110, 20, 240, 241, 242, 78, 79, 119, 184, 185, 186, 81, 187, 97, 92, 134, 135, 136, 137, 98, 138, 139, 140, 141, 142, 143, 144, 145, 91, 188, 189, 190, 31, 191, 57, 53, 55, 192, 193, 58, 150, 151, 194, 195, 196, 197, 198, 199, 200, 174, 201, 202, 203, 204, 205, 206, 207, 54, 450, 451, 452, 453, 454, 455, 476, 477, 478, 479, 480, 481, 482, 483, 464, 465, 466, 467, 468, 469, 470, 471, 472, 473, 474, 475, 456, 457, 458] (by decide +kernel) (by decide +kernel)) (goodIn_sub (fun _ h => List.mem_append_right _ h) (by decide +kernel))) (goodIn_sub (fun _ h => List.mem_append_left _ (List.mem_append_left _ (List.mem_append_right _ h))) (by decide +kernel))
set_option maxRecDepth 20000 in
theorem gL_law_X5_load : GoodIn wsL_law (wsV RL 49 RX5 yX5_load wsX5_load) := goodIn_app (goodIn_of _ (by decide +kernel)) ggL_law_X5_load
set_option maxRecDepth 20000 in
theorem ggL_law_X5_cell : GoodIn wsL_law wsX5_cell := goodIn_ca (goodIn_r _ [246, 247, 16, 248, 249, 250, 121, 122, 123, 2, 124, 109, 110, 18, 228, 229, 230, 251, 150, 151, 252, 195, 196, 31, 197, 198, 57, 53, 192, 55, 199, 200, 174, 201, 202, 203, 464, 465, 466, 467, 468, 469, 470, 471, 472, 473, 474, 475, 450, 451, 452, 453, 454, 455, 456, 457, 458] (by decide +kernel) (by decide +kernel)) (goodIn_sub (fun _ h => List.mem_append_right _ h) (by decide +kernel))
set_option maxRecDepth 20000 in
theorem gL_law_X5_cell : GoodIn wsL_law (wsV RL 19 RX5 yX5_cell wsX5_cell) := goodIn_app (goodIn_of _ (by decide +kernel)) ggL_law_X5_cell
set_option maxRecDepth 20000 in
theorem ggL_law_X5_stick : GoodIn wsL_law wsX5_stick := goodIn_ca (goodIn_ca (goodIn_ca (goodIn_r _ [256, 78, 79, 121, 122, 123, 2, 124, 109, 110, 18, 228, 229, 230, 82, 83, 84, 85, 86, 257, 258, 259, 31, 260, 57, 53, 150, 151, 450, 451, 452, 453, 454, 455, 464, 465, 466, 467, 468, 469, 470, 471, 472, 473, 474, 475] (by decide +kernel) (by decide +kernel)) (goodIn_sub (fun _ h => List.mem_append_left _ (List.mem_append_left _ (List.mem_append_right _ h))) (by decide +kernel))) (goodIn_sub (fun _ h => List.mem_append_right _ h) (by decide +kernel))) (goodIn_sub (fun _ h => List.mem_append_left _ (List.mem_append_right _ h)) (by decide +kernel))
set_option maxRecDepth 20000 in
theorem gL_law_X5_stick : GoodIn wsL_law (wsV RL 53 RX5 yX5_stick wsX5_stick) := goodIn_app (goodIn_of _ (by decide +kernel)) ggL_law_X5_stick
set_option maxRecDepth 20000 in
theorem ggL_law_X5_share : GoodIn wsL_law wsX5_share := goodIn_ca (goodIn_r _ [264, 249, 265, 121, 122, 123, 2, 124, 109, 110, 18, 464, 465, 466, 467, 468, 469, 470, 471, 472, 473, 474, 475, 450, 451, 452, 453, 454, 455] (by decide +kernel) (by decide +kernel)) (goodIn_sub (fun _ h => List.mem_append_right _ h) (by decide +kernel))
set_option maxRecDepth 20000 in
theorem gL_law_X5_share : GoodIn wsL_law (wsV RL 57 RX5 yX5_share wsX5_share) := goodIn_app (goodIn_of _ (by decide +kernel)) ggL_law_X5_share
set_option maxRecDepth 20000 in
theorem ggL_law_X5_spoil : GoodIn wsL_law wsX5_spoil := goodIn_ca (goodIn_ca (goodIn_r _ [269, 270, 121, 122, 123, 2, 124, 109, 110, 18, 82, 83, 84, 85, 86, 271, 272, 273, 274, 257, 258, 259, 31, 260, 57, 53, 150, 151, 450, 451, 452, 453, 454, 455, 464, 465, 466, 467, 468, 469, 470, 471, 472, 473, 474, 475] (by decide +kernel) (by decide +kernel)) (goodIn_sub (fun _ h => List.mem_append_right _ h) (by decide +kernel))) (goodIn_sub (fun _ h => List.mem_append_left _ (List.mem_append_right _ h)) (by decide +kernel))
set_option maxRecDepth 20000 in
theorem gL_law_X5_spoil : GoodIn wsL_law (wsV RL 62 RX5 yX5_spoil wsX5_spoil) := goodIn_app (goodIn_of _ (by decide +kernel)) ggL_law_X5_spoil
set_option maxRecDepth 20000 in
theorem ggL_law_X5_hour : GoodIn wsL_law wsX5_hour := goodIn_r _ [278, 16, 279, 450, 451, 452, 453, 454, 455, 456, 457, 458] (by decide +kernel) (by decide +kernel)
set_option maxRecDepth 20000 in
theorem gL_law_X5_hour : GoodIn wsL_law (wsV RL 67 RX5 yX5_hour wsX5_hour) := goodIn_app (goodIn_of _ (by decide +kernel)) ggL_law_X5_hour
set_option maxRecDepth 20000 in
theorem ggL_law_X5_pass : GoodIn wsL_law wsX5_pass := goodIn_ca (goodIn_ca (goodIn_r _ [283, 78, 79, 16, 279, 284, 82, 83, 2, 84, 85, 86, 450, 451, 452, 453, 454, 455, 456, 457, 458] (by decide +kernel) (by decide +kernel)) (goodIn_sub (fun _ h => List.mem_append_left _ (List.mem_append_left _ (List.mem_append_right _ h))) (by decide +kernel))) (goodIn_sub (fun _ h => List.mem_append_left _ (List.mem_append_right _ h)) (by decide +kernel))
set_option maxRecDepth 20000 in
theorem gL_law_X5_pass : GoodIn wsL_law (wsV RL 71 RX5 yX5_pass wsX5_pass) := goodIn_app (goodIn_of _ (by decide +kernel)) ggL_law_X5_pass
set_option maxRecDepth 20000 in
theorem ggL_law_X5_drift : GoodIn wsL_law wsX5_drift := goodIn_ca (goodIn_r _ [288, 16, 289, 82, 83, 2, 84, 85, 86, 450, 451, 452, 453, 454, 455, 456, 457, 458] (by decide +kernel) (by decide +kernel)) (goodIn_sub (fun _ h => List.mem_append_left _ (List.mem_append_right _ h)) (by decide +kernel))
set_option maxRecDepth 20000 in
theorem gL_law_X5_drift : GoodIn wsL_law (wsV RL 74 RX5 yX5_drift wsX5_drift) := goodIn_app (goodIn_of _ (by decide +kernel)) ggL_law_X5_drift
set_option maxRecDepth 20000 in
theorem ggL_law_X5_converter : GoodIn wsL_law wsX5_converter := goodIn_ca (goodIn_ca (goodIn_r _ [293, 294, 295, 121, 122, 123, 2, 124, 109, 110, 18, 82, 83, 84, 85, 86, 464, 465, 466, 467, 468, 469, 470, 471, 472, 473, 474, 475, 450, 451, 452, 453, 454, 455] (by decide +kernel) (by decide +kernel)) (goodIn_sub (fun _ h => List.mem_append_right _ h) (by decide +kernel))) (goodIn_sub (fun _ h => List.mem_append_left _ (List.mem_append_right _ h)) (by decide +kernel))
set_option maxRecDepth 20000 in
theorem gL_law_X5_converter : GoodIn wsL_law (wsV RL 77 RX5 yX5_converter wsX5_converter) := goodIn_app (goodIn_of _ (by decide +kernel)) ggL_law_X5_converter
set_option maxRecDepth 20000 in
theorem ggL_law_X5_converters : GoodIn wsL_law wsX5_converters := goodIn_ca (goodIn_ca (goodIn_r _ [299, 85, 86, 300, 121, 122, 123, 2, 124, 109, 110, 18, 82, 83, 84, 301, 162, 163, 164, 165, 166, 167, 464, 465, 466, 467, 468, 469, 470, 471, 472, 473, 474, 475, 450, 451, 452, 453, 454, 455] (by decide +kernel) (by decide +kernel)) (goodIn_sub (fun _ h => List.mem_append_left _ (List.mem_append_right _ h)) (by decide +kernel))) (goodIn_sub (fun _ h => List.mem_append_right _ h) (by decide +kernel))
set_option maxRecDepth 20000 in
theorem gL_law_X5_converters : GoodIn wsL_law (wsV RL 80 RX5 yX5_converters wsX5_converters) := goodIn_app (goodIn_of _ (by decide +kernel)) ggL_law_X5_converters
set_option maxRecDepth 20000 in
theorem ggL_law_X5_offset : GoodIn wsL_law wsX5_offset := goodIn_ca (goodIn_ca (goodIn_r _ [305, 306, 121, 122, 123, 2, 124, 109, 110, 18, 228, 229, 230, 82, 83, 84, 85, 86, 464, 465, 466, 467, 468, 469, 470, 471, 472, 473, 474, 475, 450, 451, 452, 453, 454, 455] (by decide +kernel) (by decide +kernel)) (goodIn_sub (fun _ h => List.mem_append_right _ h) (by decide +kernel))) (goodIn_sub (fun _ h => List.mem_append_left _ (List.mem_append_right _ h)) (by decide +kernel))
set_option maxRecDepth 20000 in
theorem gL_law_X5_offset : GoodIn wsL_law (wsV RL 83 RX5 yX5_offset wsX5_offset) := goodIn_app (goodIn_of _ (by decide +kernel)) ggL_law_X5_offset
set_option maxRecDepth 20000 in
theorem ggL_law_X5_calibrate : GoodIn wsL_law wsX5_calibrate := goodIn_ca (goodIn_r _ [310, 311, 121, 122, 123, 2, 124, 109, 110, 18, 464, 465, 466, 467, 468, 469, 470, 471, 472, 473, 474, 475, 450, 451, 452, 453, 454, 455] (by decide +kernel) (by decide +kernel)) (goodIn_sub (fun _ h => List.mem_append_right _ h) (by decide +kernel))
set_option maxRecDepth 20000 in
theorem gL_law_X5_calibrate : GoodIn wsL_law (wsV RL 86 RX5 yX5_calibrate wsX5_calibrate) := goodIn_app (goodIn_of _ (by decide +kernel)) ggL_law_X5_calibrate
set_option maxRecDepth 20000 in
theorem ggL_law_X5_misfits : GoodIn wsL_law wsX5_misfits := goodIn_ca (goodIn_r _ [315, 24, 226, 105, 106, 107, 2, 108, 109, 110, 20, 121, 122, 123, 124, 18, 125, 126, 127, 23, 128, 129, 41, 130, 131, 132, 81, 133, 134, 135, 136, 137, 98, 138, 139, 140, 141, 142, 143, 144, 145, 91, 146, 147, 148, 31, 149, 58, 53, 150, 151, 316, 158, 159, 160, 42, 161, 162, 163, 164, 165, 166, 167, 168, 169, 170, 171, 172, 173, 174, 175, 176, 177, 178, 179, 450, 451, 452, 453, 454, 455, 476, 477, 478, 479, 480, 481, 482, 483, 459, 460, 464, 465, 466, 467, 468, 469, 470, 471, 472, 473, 474, 475] (by decide +kernel) (by decide +kernel)) (goodIn_sub (fun _ h => List.mem_append_right _ h) (by decide +kernel))
set_option maxRecDepth 20000 in
theorem gL_law_X5_misfits : GoodIn wsL_law (wsV RL 90 RX5 yX5_misfits wsX5_misfits) := goodIn_app (goodIn_of _ (by decide +kernel)) ggL_law_X5_misfits
set_option maxRecDepth 20000 in
theorem ggL_law_X5_lift : GoodIn wsL_law wsX5_lift := goodIn_ca (goodIn_ca (goodIn_r _ [320, 119, 120, 321, 105, 106, 107, 2, 108, 109, 110, 20, 240, 241, 242, 78, 79, 476, 477, 478, 479, 480, 481, 482, 483, 464, 465, 466, 467, 468, 469, 470, 471, 472, 473, 474, 475, 450, 451, 452, 453, 454, 455] (by decide +kernel) (by decide +kernel)) (goodIn_sub (fun _ h => List.mem_append_right _ h) (by decide +kernel))) (goodIn_sub (fun _ h => List.mem_append_left _ (List.mem_append_left _ (List.mem_append_right _ h))) (by decide +kernel))
set_option maxRecDepth 20000 in
theorem gL_law_X5_lift : GoodIn wsL_law (wsV RL 93 RX5 yX5_lift wsX5_lift) := goodIn_app (goodIn_of _ (by decide +kernel)) ggL_law_X5_lift
set_option maxRecDepth 20000 in
theorem ggL_law_X5_rowOf : GoodIn wsL_law wsX5_rowOf := goodIn_ca (goodIn_r _ [325, 226, 119, 326, 105, 106, 107, 2, 108, 109, 110, 20, 228, 229, 230, 476, 477, 478, 479, 480, 481, 482, 483, 450, 451, 452, 453, 454, 455] (by decide +kernel) (by decide +kernel)) (goodIn_sub (fun _ h => List.mem_append_right _ h) (by decide +kernel))
set_option maxRecDepth 20000 in
theorem gL_law_X5_rowOf : GoodIn wsL_law (wsV RL 8 RX5 yX5_rowOf wsX5_rowOf) := goodIn_app (goodIn_of _ (by decide +kernel)) ggL_law_X5_rowOf
set_option maxRecDepth 20000 in
theorem ggL_law_X5_tileOf : GoodIn wsL_law wsX5_tileOf := goodIn_ca (goodIn_r _ [330, 119, 321, 105, 106, 107, 2, 108, 109, 110, 20, 476, 477, 478, 479, 480, 481, 482, 483, 464, 465, 466, 467, 468, 469, 470, 471, 472, 473, 474, 475, 450, 451, 452, 453, 454, 455] (by decide +kernel) (by decide +kernel)) (goodIn_sub (fun _ h => List.mem_append_right _ h) (by decide +kernel))
set_option maxRecDepth 20000 in
theorem gL_law_X5_tileOf : GoodIn wsL_law (wsV RL 96 RX5 yX5_tileOf wsX5_tileOf) := goodIn_app (goodIn_of _ (by decide +kernel)) ggL_law_X5_tileOf
set_option maxRecDepth 20000 in
theorem ggL_law_L_misfits : GoodIn wsL_law wsL_misfits := goodIn_ca (goodIn_r _ [333, 322, 323, 324, 2, 325, 226, 119, 326, 105, 106, 107, 108, 109, 110, 20, 228, 229, 230, 334, 335, 68, 336, 243, 244, 245, 246, 247, 16, 248, 249, 250, 121, 122, 123, 124, 18, 251, 150, 151, 252, 195, 196, 31, 197, 198, 57, 53, 192, 55, 199, 200, 174, 201, 202, 203, 476, 477, 478, 479, 480, 481, 482, 483, 450, 451, 452, 453, 454, 455, 464, 465, 466, 467, 468, 469, 470, 471, 472, 473, 474, 475, 456, 457, 458] (by decide +kernel) (by decide +kernel)) (goodIn_sub (fun _ h => List.mem_append_right _ h) (by decide +kernel))
set_option maxRecDepth 20000 in
theorem gL_law_L_misfits : GoodIn wsL_law (va_wsS RL 99 yL_misfits wsL_misfits) := goodIn_app (goodIn_of _ (by decide +kernel)) ggL_law_L_misfits
set_option maxRecDepth 20000 in
theorem ggL_law_X5_endurance : GoodIn wsL_law wsX5_endurance := goodIn_ca (goodIn_r _ [340, 341, 16, 342, 82, 83, 2, 84, 85, 86, 450, 451, 452, 453, 454, 455, 456, 457, 458] (by decide +kernel) (by decide +kernel)) (goodIn_sub (fun _ h => List.mem_append_left _ (List.mem_append_right _ h)) (by decide +kernel))
set_option maxRecDepth 20000 in
theorem gL_law_X5_endurance : GoodIn wsL_law (wsV RL 102 RX5 yX5_endurance wsX5_endurance) := goodIn_app (goodIn_of _ (by decide +kernel)) ggL_law_X5_endurance
set_option maxRecDepth 20000 in
theorem ggL_law_X5_answer : GoodIn wsL_law wsX5_answer := goodIn_ca (goodIn_ca (goodIn_r _ [346, 227, 16, 105, 106, 107, 2, 108, 109, 110, 20, 228, 229, 230, 240, 241, 242, 78, 79, 119, 347, 348, 349, 81, 350, 351, 352, 353, 354, 97, 92, 355, 356, 216, 195, 196, 31, 197, 198, 57, 53, 192, 55, 199, 200, 174, 201, 150, 151, 202, 203, 357, 358, 359, 360, 62, 59, 61, 60, 361, 173, 175, 476, 477, 478, 479, 480, 481, 482, 483, 450, 451, 452, 453, 454, 455, 456, 457, 458, 464, 465, 466, 467, 468, 469, 470, 471, 472, 473, 474, 475] (by decide +kernel) (by decide +kernel)) (goodIn_sub (fun _ h => List.mem_append_right _ h) (by decide +kernel))) (goodIn_sub (fun _ h => List.mem_append_left _ (List.mem_append_left _ (List.mem_append_right _ h))) (by decide +kernel))
set_option maxRecDepth 20000 in
theorem gL_law_X5_answer : GoodIn wsL_law (wsV RL 107 RX5 yX5_answer wsX5_answer) := goodIn_app (goodIn_of _ (by decide +kernel)) ggL_law_X5_answer
set_option maxRecDepth 20000 in
theorem ggL_law_X5_ideal : GoodIn wsL_law wsX5_ideal := goodIn_ca (goodIn_r _ [365, 227, 105, 106, 107, 2, 108, 109, 110, 20, 228, 229, 230, 366, 367, 368, 81, 369, 97, 142, 143, 144, 145, 91, 355, 356, 476, 477, 478, 479, 480, 481, 482, 483, 450, 451, 452, 453, 454, 455] (by decide +kernel) (by decide +kernel)) (goodIn_sub (fun _ h => List.mem_append_right _ h) (by decide +kernel))
set_option maxRecDepth 20000 in
theorem gL_law_X5_ideal : GoodIn wsL_law (wsV RL 111 RX5 yX5_ideal wsX5_ideal) := goodIn_app (goodIn_of _ (by decide +kernel)) ggL_law_X5_ideal
set_option maxRecDepth 20000 in
theorem ggL_law_X5_bound : GoodIn wsL_law wsX5_bound := goodIn_ca (goodIn_ca (goodIn_r _ [373, 227, 105, 106, 107, 2, 108, 109, 110, 20, 228, 229, 230, 240, 241, 242, 78, 79, 119, 374, 375, 376, 81, 377, 378, 379, 380, 381, 97, 138, 139, 140, 141, 142, 143, 144, 145, 91, 382, 383, 384, 31, 385, 199, 200, 174, 201, 386, 358, 359, 360, 62, 59, 61, 60, 361, 173, 175, 202, 203, 387, 388, 389, 390, 476, 477, 478, 479, 480, 481, 482, 483, 450, 451, 452, 453, 454, 455, 464, 465, 466, 467, 468, 469, 470, 471, 472, 473, 474, 475] (by decide +kernel) (by decide +kernel)) (goodIn_sub (fun _ h => List.mem_append_right _ h) (by decide +kernel))) (goodIn_sub (fun _ h => List.mem_append_left _ (List.mem_append_left _ (List.mem_append_right _ h))) (by decide +kernel))
set_option maxRecDepth 20000 in
theorem gL_law_X5_bound : GoodIn wsL_law (wsV RL 114 RX5 yX5_bound wsX5_bound) := goodIn_app (goodIn_of _ (by decide +kernel)) ggL_law_X5_bound
set_option maxRecDepth 20000 in
theorem ggL_law_X5_misfitsAnew : GoodIn wsL_law wsX5_misfitsAnew := goodIn_ca (goodIn_ca (goodIn_r _ [394, 78, 79, 226, 24, 105, 106, 107, 2, 108, 109, 110, 20, 121, 122, 123, 124, 18, 125, 126, 127, 23, 128, 129, 41, 130, 131, 132, 81, 133, 134, 135, 136, 137, 98, 138, 139, 140, 141, 142, 143, 144, 145, 91, 146, 147, 148, 31, 149, 58, 53, 150, 151, 395, 396, 397, 398, 172, 173, 174, 175, 399, 400, 401, 402, 476, 477, 478, 479, 480, 481, 482, 483, 450, 451, 452, 453, 454, 455, 459, 460, 464, 465, 466, 467, 468, 469, 470, 471, 472, 473, 474, 475] (by decide +kernel) (by decide +kernel)) (goodIn_sub (fun _ h => List.mem_append_left _ (List.mem_append_left _ (List.mem_append_right _ h))) (by decide +kernel))) (goodIn_sub (fun _ h => List.mem_append_right _ h) (by decide +kernel))
set_option maxRecDepth 20000 in
theorem gL_law_X5_misfitsAnew : GoodIn wsL_law (wsV RL 118 RX5 yX5_misfitsAnew wsX5_misfitsAnew) := goodIn_app (goodIn_of _ (by decide +kernel)) ggL_law_X5_misfitsAnew
set_option maxRecDepth 20000 in
theorem ggL_law_X5_cycles : GoodIn wsL_law wsX5_cycles := goodIn_ca (goodIn_ca (goodIn_ca (goodIn_r _ [406, 28, 105, 106, 107, 2, 108, 109, 110, 20, 82, 83, 84, 85, 86, 407, 408, 409, 410, 103, 411, 412, 413, 27, 414, 48, 240, 241, 242, 78, 79, 119, 415, 416, 417, 81, 418, 419, 134, 135, 136, 137, 98, 202, 203, 420, 421, 422, 423, 46, 424, 425, 426, 427, 428, 200, 174, 201, 450, 451, 452, 453, 454, 455, 476, 477, 478, 479, 480, 481, 482, 483, 461, 462, 463, 464, 465, 466, 467, 468, 469, 470, 471, 472, 473, 474, 475] (by decide +kernel) (by decide +kernel)) (goodIn_sub (fun _ h => List.mem_append_right _ h) (by decide +kernel))) (goodIn_sub (fun _ h => List.mem_append_left _ (List.mem_append_right _ h)) (by decide +kernel))) (goodIn_sub (fun _ h => List.mem_append_left _ (List.mem_append_left _ (List.mem_append_right _ h))) (by decide +kernel))
set_option maxRecDepth 20000 in
theorem gL_law_X5_cycles : GoodIn wsL_law (wsV RL 121 RX5 yX5_cycles wsX5_cycles) := goodIn_app (goodIn_of _ (by decide +kernel)) ggL_law_X5_cycles
set_option maxRecDepth 20000 in
theorem ggL_law_X5_cyclesAnew : GoodIn wsL_law wsX5_cyclesAnew := goodIn_ca (goodIn_ca (goodIn_ca (goodIn_r _ [432, 28, 105, 106, 107, 2, 108, 109, 110, 20, 82, 83, 84, 85, 86, 407, 408, 409, 410, 103, 411, 412, 413, 27, 414, 48, 240, 241, 242, 78, 79, 119, 415, 416, 417, 81, 418, 419, 134, 135, 136, 137, 98, 202, 203, 420, 421, 422, 423, 46, 433, 434, 435, 436, 47, 437, 438, 439, 440, 441, 442, 443, 444, 445, 450, 451, 452, 453, 454, 455, 476, 477, 478, 479, 480, 481, 482, 483, 461, 462, 463, 464, 465, 466, 467, 468, 469, 470, 471, 472, 473, 474, 475] (by decide +kernel) (by decide +kernel)) (goodIn_sub (fun _ h => List.mem_append_right _ h) (by decide +kernel))) (goodIn_sub (fun _ h => List.mem_append_left _ (List.mem_append_right _ h)) (by decide +kernel))) (goodIn_sub (fun _ h => List.mem_append_left _ (List.mem_append_left _ (List.mem_append_right _ h))) (by decide +kernel))
set_option maxRecDepth 20000 in
theorem gL_law_X5_cyclesAnew : GoodIn wsL_law (wsV RL 124 RX5 yX5_cyclesAnew wsX5_cyclesAnew) := goodIn_app (goodIn_of _ (by decide +kernel)) ggL_law_X5_cyclesAnew
set_option maxRecDepth 20000 in
theorem ggL_law_X5_wear : GoodIn wsL_law wsX5_wear := goodIn_ca (goodIn_r _ [449, 248, 121, 122, 123, 2, 124, 109, 110, 18, 464, 465, 466, 467, 468, 469, 470, 471, 472, 473, 474, 475, 450, 451, 452, 453, 454, 455] (by decide +kernel) (by decide +kernel)) (goodIn_sub (fun _ h => List.mem_append_right _ h) (by decide +kernel))
set_option maxRecDepth 20000 in
theorem gL_law_X5_wear : GoodIn wsL_law (wsV RL 127 RX5 yX5_wear wsX5_wear) := goodIn_app (goodIn_of _ (by decide +kernel)) ggL_law_X5_wear
