set_option maxRecDepth 20000 in
theorem gL_paid_X2_sum : GoodIn wsL_paid (wsV RL 18 RX2 yX2_sum wsX2_sum) := goodIn_app (goodIn_of _ (by decide +kernel)) ggL_paid_X2_sum
set_option maxRecDepth 20000 in
theorem ggL_paid_X2_pay : GoodIn wsL_paid wsX2_pay := goodIn_ca (goodIn_ca (goodIn_r _ [146, 147, 148, 6, 7, 8, 9, 10, 11, 4, 12, 13, 14, 15, 16, 17, 18, 19, 20, 21, 22, 23, 24, 25, 26, 27, 28, 29, 30, 31, 32, 33, 34, 35, 36, 37, 38, 39, 40, 41, 42, 43, 44, 45, 46, 47, 48, 49, 50, 51, 52, 53, 54, 55, 56, 57, 58, 59, 60, 61, 62, 63, 64, 65, 66, 67, 68, 69, 70, 71, 72, 73, 74, 75, 76, 77, 78, 79, 80, 81, 82, 83, 84, 85, 86, 87, 88, 89, 90, 91, 92, 93, 94, 95, 96, 97, 98, 99, 100, 101, 102, 103, 104, 105, 106, 107, 108, 109, 110, 111, 112, 113, 114, 115, 116, 117, 118, 119, 120, 121, 122, 123, 124, 125, 126, 127, 128, 129, 130, 131, 132, 133, 134, 149, 150, 151, 152, 153, 154, 155, 156, 157, 158, 159, 160, 161, 162, 163, 164, 165, 166, 167, 168, 169, 170, 171, 172, 173, 174, 175, 176, 177, 178] (by decide +kernel) (by decide +kernel)) (goodIn_sub (fun _ h => List.mem_cons_of_mem _ (List.mem_append_right _ h)) (by decide +kernel))) (goodIn_sub (fun _ h => List.mem_cons_of_mem _ (List.mem_append_left _ (List.mem_append_right _ h))) (by decide +kernel))
set_option maxRecDepth 20000 in
theorem gL_paid_X2_pay : GoodIn wsL_paid (wsV RL 43 RX2 yX2_pay wsX2_pay) := goodIn_app (goodIn_of _ (by decide +kernel)) ggL_paid_X2_pay
theorem dL_paid_0 : decode cL_paid 0 = .ok (.iconst 0, 1) := by decide +kernel
theorem dL_paid_1 : decode cL_paid 1 = .ok (.istore_n 3, 1) := by decide +kernel
theorem dL_paid_2 : decode cL_paid 2 = .ok (.iload_n 3, 1) := by decide +kernel
theorem dL_paid_3 : decode cL_paid 3 = .ok (.aload_n 1, 1) := by decide +kernel
theorem dL_paid_4 : decode cL_paid 4 = .ok (.iconst 0, 1) := by decide +kernel
theorem dL_paid_5 : decode cL_paid 5 = .ok (.iaload, 1) := by decide +kernel
theorem dL_paid_6 : decode cL_paid 6 = .ok (.if_icmp .ge 97, 3) := by decide +kernel
theorem dL_paid_9 : decode cL_paid 9 = .ok (.aload_n 0, 1) := by decide +kernel
theorem dL_paid_10 : decode cL_paid 10 = .ok (.iload_n 3, 1) := by decide +kernel
theorem dL_paid_11 : decode cL_paid 11 = .ok (.invokevirtual 37, 3) := by decide +kernel
theorem dL_paid_14 : decode cL_paid 14 = .ok (.istore 4, 2) := by decide +kernel
theorem dL_paid_16 : decode cL_paid 16 = .ok (.aload_n 0, 1) := by decide +kernel
theorem dL_paid_17 : decode cL_paid 17 = .ok (.iload_n 3, 1) := by decide +kernel
theorem dL_paid_18 : decode cL_paid 18 = .ok (.invokevirtual 40, 3) := by decide +kernel
theorem dL_paid_21 : decode cL_paid 21 = .ok (.aload_n 2, 1) := by decide +kernel
theorem dL_paid_22 : decode cL_paid 22 = .ok (.iload_n 3, 1) := by decide +kernel
theorem dL_paid_23 : decode cL_paid 23 = .ok (.iaload, 1) := by decide +kernel
theorem dL_paid_24 : decode cL_paid 24 = .ok (.if_icmp .ne 17, 3) := by decide +kernel
theorem dL_paid_27 : decode cL_paid 27 = .ok (.iload 4, 2) := by decide +kernel
theorem dL_paid_29 : decode cL_paid 29 = .ok (.aload_n 0, 1) := by decide +kernel
theorem dL_paid_30 : decode cL_paid 30 = .ok (.iload_n 3, 1) := by decide +kernel
theorem dL_paid_31 : decode cL_paid 31 = .ok (.invokevirtual 18, 3) := by decide +kernel
theorem dL_paid_34 : decode cL_paid 34 = .ok (.aload_n 2, 1) := by decide +kernel
theorem dL_paid_35 : decode cL_paid 35 = .ok (.iload_n 3, 1) := by decide +kernel
theorem dL_paid_36 : decode cL_paid 36 = .ok (.iaload, 1) := by decide +kernel
theorem dL_paid_37 : decode cL_paid 37 = .ok (.isub, 1) := by decide +kernel
theorem dL_paid_38 : decode cL_paid 38 = .ok (.if_icmp .eq 5, 3) := by decide +kernel
theorem dL_paid_41 : decode cL_paid 41 = .ok (.iconst 0, 1) := by decide +kernel
theorem dL_paid_42 : decode cL_paid 42 = .ok (.ireturn, 1) := by decide +kernel
theorem dL_paid_43 : decode cL_paid 43 = .ok (.iload 4, 2) := by decide +kernel
theorem dL_paid_45 : decode cL_paid 45 = .ok (.ifCond .le 52, 3) := by decide +kernel
theorem dL_paid_48 : decode cL_paid 48 = .ok (.iload_n 3, 1) := by decide +kernel
theorem dL_paid_49 : decode cL_paid 49 = .ok (.iconst 2, 1) := by decide +kernel
theorem dL_paid_50 : decode cL_paid 50 = .ok (.irem, 1) := by decide +kernel
theorem dL_paid_51 : decode cL_paid 51 = .ok (.iconst 1, 1) := by decide +kernel
theorem dL_paid_52 : decode cL_paid 52 = .ok (.if_icmp .ne 6, 3) := by decide +kernel
theorem dL_paid_55 : decode cL_paid 55 = .ok (.goto 42, 3) := by decide +kernel
theorem dL_paid_58 : decode cL_paid 58 = .ok (.aload_n 2, 1) := by decide +kernel
theorem dL_paid_59 : decode cL_paid 59 = .ok (.iload_n 3, 1) := by decide +kernel
theorem dL_paid_60 : decode cL_paid 60 = .ok (.dup2, 1) := by decide +kernel
theorem dL_paid_61 : decode cL_paid 61 = .ok (.iaload, 1) := by decide +kernel
theorem dL_paid_62 : decode cL_paid 62 = .ok (.iload 4, 2) := by decide +kernel
theorem dL_paid_64 : decode cL_paid 64 = .ok (.iadd, 1) := by decide +kernel
theorem dL_paid_65 : decode cL_paid 65 = .ok (.iastore, 1) := by decide +kernel
theorem dL_paid_66 : decode cL_paid 66 = .ok (.aload_n 0, 1) := by decide +kernel
theorem dL_paid_67 : decode cL_paid 67 = .ok (.iload_n 3, 1) := by decide +kernel
theorem dL_paid_68 : decode cL_paid 68 = .ok (.invokevirtual 43, 3) := by decide +kernel
theorem dL_paid_71 : decode cL_paid 71 = .ok (.iload 4, 2) := by decide +kernel
theorem dL_paid_73 : decode cL_paid 73 = .ok (.if_icmp .ne 22, 3) := by decide +kernel
theorem dL_paid_76 : decode cL_paid 76 = .ok (.aload_n 0, 1) := by decide +kernel
theorem dL_paid_77 : decode cL_paid 77 = .ok (.iload_n 3, 1) := by decide +kernel
theorem dL_paid_78 : decode cL_paid 78 = .ok (.invokevirtual 37, 3) := by decide +kernel
theorem dL_paid_81 : decode cL_paid 81 = .ok (.ifCond .ne 14, 3) := by decide +kernel
theorem dL_paid_84 : decode cL_paid 84 = .ok (.aload_n 0, 1) := by decide +kernel
theorem dL_paid_85 : decode cL_paid 85 = .ok (.iload_n 3, 1) := by decide +kernel
theorem dL_paid_86 : decode cL_paid 86 = .ok (.invokevirtual 40, 3) := by decide +kernel
theorem dL_paid_89 : decode cL_paid 89 = .ok (.aload_n 2, 1) := by decide +kernel
theorem dL_paid_90 : decode cL_paid 90 = .ok (.iload_n 3, 1) := by decide +kernel
theorem dL_paid_91 : decode cL_paid 91 = .ok (.iaload, 1) := by decide +kernel
theorem dL_paid_92 : decode cL_paid 92 = .ok (.if_icmp .eq 5, 3) := by decide +kernel
theorem dL_paid_95 : decode cL_paid 95 = .ok (.iconst 0, 1) := by decide +kernel
theorem dL_paid_96 : decode cL_paid 96 = .ok (.ireturn, 1) := by decide +kernel
theorem dL_paid_97 : decode cL_paid 97 = .ok (.iinc 3 1, 3) := by decide +kernel
theorem dL_paid_100 : decode cL_paid 100 = .ok (.goto (-98), 3) := by decide +kernel
theorem dL_paid_103 : decode cL_paid 103 = .ok (.iconst 1, 1) := by decide +kernel
theorem dL_paid_104 : decode cL_paid 104 = .ok (.ireturn, 1) := by decide +kernel
set_option maxRecDepth 20000 in
theorem ggL_grows_X2_sum : GoodIn wsL_grows wsX2_sum := goodIn_ca (goodIn_r _ [5, 6, 7, 8, 9, 10, 4, 11, 12, 13, 14, 15, 16, 17, 18, 19, 20, 21, 22, 23, 24, 25, 26, 27, 28, 29, 30, 31, 32, 33, 34, 35, 36, 37, 38, 39, 40, 41, 42, 43, 44, 45, 46, 47, 48, 49, 50, 51, 52, 53, 54, 55, 56, 57, 58, 59, 60, 61, 62, 63, 64, 65, 66, 67, 68, 69, 70, 71, 72, 73, 74, 75, 76, 77, 78, 79, 80, 81, 82, 83, 84, 85, 86, 87, 88, 89, 90, 91, 92, 93, 94, 95, 96, 97, 98, 99, 100, 101, 102, 103, 104, 105, 106, 107, 108, 109, 110, 111, 112, 113, 114, 115, 116, 117, 118, 119, 120, 121, 122, 123, 124, 125, 126, 127, 128, 129, 130, 131, 132, 133, 160, 161, 162, 163, 164, 165, 166, 167, 168, 169, 170, 171, 172, 173, 174, 175, 176, 177, 178, 179, 180, 181, 182, 183, 184, 185, 186, 187, 188, 189] (by decide +kernel) (by decide +kernel)) (goodIn_sub (fun _ h => List.mem_cons_of_mem _ (List.mem_append_left _ (List.mem_append_right _ h))) (by decide +kernel))
set_option maxRecDepth 20000 in
theorem gL_grows_X2_sum : GoodIn wsL_grows (wsV RL 18 RX2 yX2_sum wsX2_sum) := goodIn_app (goodIn_of _ (by decide +kernel)) ggL_grows_X2_sum
set_option maxRecDepth 20000 in
theorem ggL_grows_X2_gross : GoodIn wsL_grows wsX2_gross := goodIn_ca (goodIn_r _ [137, 138, 139, 140, 4, 141, 12, 13, 42, 43, 44, 45, 46, 47, 48, 49, 50, 51, 52, 53, 54, 55, 56, 57, 58, 59, 60, 61, 62, 63, 64, 65, 66, 67, 68, 69, 70, 71, 72, 73, 74, 75, 76, 77, 78, 79, 80, 81, 82, 83, 84, 85, 86, 87, 88, 15, 16, 17, 18, 19, 89, 21, 22, 23, 24, 25, 26, 27, 28, 29, 30, 31, 32, 33, 34, 35, 36, 90, 91, 92, 93, 94, 95, 96, 97, 98, 99, 100, 101, 102, 103, 104, 105, 106, 107, 108, 109, 110, 111, 112, 113, 114, 115, 116, 117, 118, 119, 142, 143, 144, 145, 175, 176, 177, 178, 179, 180, 181, 182, 183, 184, 185, 186, 187, 188, 189, 160, 161, 162, 163, 164, 168, 169, 170, 171, 172, 173, 174, 165, 166, 167] (by decide +kernel) (by decide +kernel)) (goodIn_sub (fun _ h => List.mem_cons_of_mem _ (List.mem_append_left _ (List.mem_append_right _ h))) (by decide +kernel))
set_option maxRecDepth 20000 in
theorem gL_grows_X2_gross : GoodIn wsL_grows (wsV RL 31 RX2 yX2_gross wsX2_gross) := goodIn_app (goodIn_of _ (by decide +kernel)) ggL_grows_X2_gross
set_option maxRecDepth 20000 in
theorem ggL_grows_X2_receive : GoodIn wsL_grows wsX2_receive := goodIn_ca (goodIn_ca (goodIn_r _ [149, 150, 151, 48, 139, 140, 4, 141, 12, 13, 152, 153, 154, 155, 156, 157, 158, 159, 142, 143, 144, 145, 46, 47, 175, 176, 177, 178, 179, 180, 181, 182, 183, 184, 185, 186, 187, 188, 189, 160, 161, 162, 163, 164] (by decide +kernel) (by decide +kernel)) (goodIn_sub (fun _ h => List.mem_cons_of_mem _ (List.mem_append_left _ (List.mem_append_right _ h))) (by decide +kernel))) (goodIn_sub (fun _ h => List.mem_cons_of_mem _ (List.mem_append_right _ h)) (by decide +kernel))
set_option maxRecDepth 20000 in
theorem gL_grows_X2_receive : GoodIn wsL_grows (wsV RL 46 RX2 yX2_receive wsX2_receive) := goodIn_app (goodIn_of _ (by decide +kernel)) ggL_grows_X2_receive
theorem dL_grows_0 : decode cL_grows 0 = .ok (.iconst 0, 1) := by decide +kernel
theorem dL_grows_1 : decode cL_grows 1 = .ok (.istore 7, 2) := by decide +kernel
theorem dL_grows_3 : decode cL_grows 3 = .ok (.iload 7, 2) := by decide +kernel
theorem dL_grows_5 : decode cL_grows 5 = .ok (.aload 5, 2) := by decide +kernel
theorem dL_grows_7 : decode cL_grows 7 = .ok (.iconst 0, 1) := by decide +kernel
theorem dL_grows_8 : decode cL_grows 8 = .ok (.iaload, 1) := by decide +kernel
theorem dL_grows_9 : decode cL_grows 9 = .ok (.if_icmp .ge 20, 3) := by decide +kernel
theorem dL_grows_12 : decode cL_grows 12 = .ok (.aload 6, 2) := by decide +kernel
theorem dL_grows_14 : decode cL_grows 14 = .ok (.iload 7, 2) := by decide +kernel
theorem dL_grows_16 : decode cL_grows 16 = .ok (.aload_n 0, 1) := by decide +kernel
theorem dL_grows_17 : decode cL_grows 17 = .ok (.iload 7, 2) := by decide +kernel
theorem dL_grows_19 : decode cL_grows 19 = .ok (.invokevirtual 18, 3) := by decide +kernel
theorem dL_grows_22 : decode cL_grows 22 = .ok (.iastore, 1) := by decide +kernel
theorem dL_grows_23 : decode cL_grows 23 = .ok (.iinc 7 1, 3) := by decide +kernel
theorem dL_grows_26 : decode cL_grows 26 = .ok (.goto (-23), 3) := by decide +kernel
theorem dL_grows_29 : decode cL_grows 29 = .ok (.aload_n 0, 1) := by decide +kernel
theorem dL_grows_30 : decode cL_grows 30 = .ok (.iload_n 1, 1) := by decide +kernel
theorem dL_grows_31 : decode cL_grows 31 = .ok (.invokevirtual 31, 3) := by decide +kernel
theorem dL_grows_34 : decode cL_grows 34 = .ok (.istore 7, 2) := by decide +kernel
theorem dL_grows_36 : decode cL_grows 36 = .ok (.aload_n 0, 1) := by decide +kernel
theorem dL_grows_37 : decode cL_grows 37 = .ok (.iload_n 1, 1) := by decide +kernel
theorem dL_grows_38 : decode cL_grows 38 = .ok (.iload_n 2, 1) := by decide +kernel
theorem dL_grows_39 : decode cL_grows 39 = .ok (.iload_n 3, 1) := by decide +kernel
theorem dL_grows_40 : decode cL_grows 40 = .ok (.invokevirtual 46, 3) := by decide +kernel
theorem dL_grows_43 : decode cL_grows 43 = .ok (.iload_n 3, 1) := by decide +kernel
theorem dL_grows_44 : decode cL_grows 44 = .ok (.if_icmp .lt 15, 3) := by decide +kernel
theorem dL_grows_47 : decode cL_grows 47 = .ok (.aload_n 0, 1) := by decide +kernel
theorem dL_grows_48 : decode cL_grows 48 = .ok (.iload_n 1, 1) := by decide +kernel
theorem dL_grows_49 : decode cL_grows 49 = .ok (.invokevirtual 31, 3) := by decide +kernel
theorem dL_grows_52 : decode cL_grows 52 = .ok (.iload 7, 2) := by decide +kernel
theorem dL_grows_54 : decode cL_grows 54 = .ok (.iload_n 3, 1) := by decide +kernel
theorem dL_grows_55 : decode cL_grows 55 = .ok (.iadd, 1) := by decide +kernel
theorem dL_grows_56 : decode cL_grows 56 = .ok (.if_icmp .eq 5, 3) := by decide +kernel
theorem dL_grows_59 : decode cL_grows 59 = .ok (.iconst 0, 1) := by decide +kernel
theorem dL_grows_60 : decode cL_grows 60 = .ok (.ireturn, 1) := by decide +kernel
theorem dL_grows_61 : decode cL_grows 61 = .ok (.iconst 0, 1) := by decide +kernel
theorem dL_grows_62 : decode cL_grows 62 = .ok (.istore 8, 2) := by decide +kernel
theorem dL_grows_64 : decode cL_grows 64 = .ok (.iload 8, 2) := by decide +kernel
theorem dL_grows_66 : decode cL_grows 66 = .ok (.aload 5, 2) := by decide +kernel
theorem dL_grows_68 : decode cL_grows 68 = .ok (.iconst 0, 1) := by decide +kernel
theorem dL_grows_69 : decode cL_grows 69 = .ok (.iaload, 1) := by decide +kernel
theorem dL_grows_70 : decode cL_grows 70 = .ok (.if_icmp .ge 35, 3) := by decide +kernel
theorem dL_grows_73 : decode cL_grows 73 = .ok (.aload 4, 2) := by decide +kernel
theorem dL_grows_75 : decode cL_grows 75 = .ok (.iload 8, 2) := by decide +kernel
theorem dL_grows_77 : decode cL_grows 77 = .ok (.iaload, 1) := by decide +kernel
theorem dL_grows_78 : decode cL_grows 78 = .ok (.iconst 3, 1) := by decide +kernel
theorem dL_grows_79 : decode cL_grows 79 = .ok (.irem, 1) := by decide +kernel
theorem dL_grows_80 : decode cL_grows 80 = .ok (.ifCond .ne 19, 3) := by decide +kernel
theorem dL_grows_83 : decode cL_grows 83 = .ok (.aload 6, 2) := by decide +kernel
theorem dL_grows_85 : decode cL_grows 85 = .ok (.iload 8, 2) := by decide +kernel
theorem dL_grows_87 : decode cL_grows 87 = .ok (.iaload, 1) := by decide +kernel
theorem dL_grows_88 : decode cL_grows 88 = .ok (.aload_n 0, 1) := by decide +kernel
theorem dL_grows_89 : decode cL_grows 89 = .ok (.iload 8, 2) := by decide +kernel
theorem dL_grows_91 : decode cL_grows 91 = .ok (.invokevirtual 18, 3) := by decide +kernel
theorem dL_grows_94 : decode cL_grows 94 = .ok (.if_icmp .le 5, 3) := by decide +kernel
theorem dL_grows_97 : decode cL_grows 97 = .ok (.iconst 0, 1) := by decide +kernel
theorem dL_grows_98 : decode cL_grows 98 = .ok (.ireturn, 1) := by decide +kernel
theorem dL_grows_99 : decode cL_grows 99 = .ok (.iinc 8 1, 3) := by decide +kernel
theorem dL_grows_102 : decode cL_grows 102 = .ok (.goto (-38), 3) := by decide +kernel
theorem dL_grows_105 : decode cL_grows 105 = .ok (.iconst 1, 1) := by decide +kernel
theorem dL_grows_106 : decode cL_grows 106 = .ok (.ireturn, 1) := by decide +kernel
set_option maxRecDepth 20000 in
theorem ggL_law_X2_init : GoodIn wsL_law wsX2_init := goodIn_r _ [9, 10, 11, 12, 13, 14, 15, 16, 17, 18, 19, 20, 21, 22, 23, 24, 25, 26, 27, 3, 28, 29, 30, 31, 32, 33, 34, 35, 36, 37, 38, 39, 40, 41, 42, 43, 44, 45, 46, 47, 48, 49, 50, 51, 368, 369, 370, 371, 372, 373, 374, 375, 376, 377, 378, 379, 380, 381, 382, 363, 364, 365, 366, 367, 383, 384, 385] (by decide +kernel) (by decide +kernel)
set_option maxRecDepth 20000 in
theorem gL_law_X2_init : GoodIn wsL_law (wsX2_init) := ggL_law_X2_init
set_option maxRecDepth 20000 in
theorem ggL_law_L_cell : GoodIn wsL_law wsL_cell := goodIn_r _ [55, 56] (by decide +kernel) (by decide +kernel)
set_option maxRecDepth 20000 in
theorem gL_law_L_cell : GoodIn wsL_law (va_wsS RL 51 yL_cell wsL_cell) := goodIn_app (goodIn_of _ (by decide +kernel)) ggL_law_L_cell
set_option maxRecDepth 20000 in
theorem ggL_law_L_at : GoodIn wsL_law wsL_at := goodIn_r _ [59] (by decide +kernel) (by decide +kernel)
set_option maxRecDepth 20000 in
theorem gL_law_L_at : GoodIn wsL_law (va_wsS RL 58 yL_at wsL_at) := goodIn_app (goodIn_of _ (by decide +kernel)) ggL_law_L_at
set_option maxRecDepth 20000 in
theorem ggL_law_X2_add : GoodIn wsL_law wsX2_add := goodIn_ca (goodIn_ca (goodIn_ca (goodIn_r _ [63, 64, 65, 66, 67, 68, 69, 70, 71, 72, 21, 73, 74, 2, 75, 76, 77, 78, 79, 80, 81, 82, 83, 84, 85, 86, 16, 17, 87, 88, 89, 90, 91, 92, 93, 94, 95, 20, 96, 97, 98, 99, 100, 15, 101, 32, 102, 103, 104, 105, 106, 107, 108, 109, 110, 111, 112, 113, 114, 115, 116, 117, 118, 119, 120, 121, 122, 123, 40, 124, 125, 126, 127, 11, 12, 128, 129, 130, 131, 132, 133, 134, 135, 136, 137, 138, 139, 140, 141, 142, 143, 144, 145, 146, 147, 148, 149, 150, 151, 39, 152, 153, 154, 155, 156, 157, 158, 159, 160, 161, 162, 163, 164, 165, 166, 167, 168, 169, 170, 171, 172, 173, 174, 175, 176, 177, 178, 179, 180, 181, 182, 386, 387, 388, 389, 390, 391, 392, 368, 369, 370, 371, 372, 373, 374, 375, 376, 377, 378, 379, 380, 381, 382, 363, 364, 365, 366, 367, 383, 384, 385] (by decide +kernel) (by decide +kernel)) (goodIn_sub (fun _ h => List.mem_append_left _ (List.mem_append_left _ (List.mem_append_right _ h))) (by decide +kernel))) (goodIn_sub (fun _ h => List.mem_append_left _ (List.mem_append_right _ h)) (by decide +kernel))) (goodIn_sub (fun _ h => List.mem_append_right _ h) (by decide +kernel))
set_option maxRecDepth 20000 in
theorem gL_law_X2_add : GoodIn wsL_law (wsV RL 62 RX2 yX2_add wsX2_add) := goodIn_app (goodIn_of _ (by decide +kernel)) ggL_law_X2_add
set_option maxRecDepth 20000 in
theorem ggL_law_L_grows : GoodIn wsL_law wsL_grows := goodIn_ca (goodIn_ca (goodIn_r _ [185, 186, 187, 188, 2, 189, 21, 190, 191, 192, 193, 194, 76, 77, 93, 94, 95, 20, 96, 97, 195, 109, 110, 111, 112, 113, 114, 115, 116, 117, 118, 119, 120, 121, 122, 123, 40, 196, 197, 198, 199, 200, 201, 202, 203, 204, 16, 17, 23, 22, 205, 206, 207, 15, 208, 209, 210, 211, 212, 213, 214, 215, 216, 217, 218, 219, 29, 220, 221, 222, 223, 224, 28, 225, 226, 227, 228, 229, 230, 231, 30, 232, 233, 234, 235, 32, 102, 103, 107, 108, 236, 237, 238, 71, 239, 131, 240, 241, 67, 242, 132, 133, 243, 244, 245, 246, 247, 248, 249, 250, 251, 252, 253, 254, 255, 256, 257, 258, 34, 35, 259, 260, 261, 262, 263, 264, 265, 266, 267, 268, 269, 270, 271, 272, 273, 274, 275, 276, 277, 73, 74, 75, 83, 84, 85, 86, 278, 279, 280, 281, 282, 283, 284, 285, 286, 78, 79, 80, 81, 82, 363, 364, 365, 366, 367, 383, 384, 385, 386, 387, 388, 389, 390, 391, 392, 368, 369, 370, 371, 372, 373, 374, 375, 376, 377, 378, 379, 380, 381, 382] (by decide +kernel) (by decide +kernel)) (goodIn_sub (fun _ h => List.mem_append_left _ (List.mem_append_left _ (List.mem_append_right _ h))) (by decide +kernel))) (goodIn_sub (fun _ h => List.mem_append_left _ (List.mem_append_right _ h)) (by decide +kernel))
set_option maxRecDepth 20000 in
theorem gL_law_L_grows : GoodIn wsL_law (va_wsS RL 66 yL_grows wsL_grows) := goodIn_app (goodIn_of _ (by decide +kernel)) ggL_law_L_grows
set_option maxRecDepth 20000 in
theorem ggL_law_X2_spend : GoodIn wsL_law wsX2_spend := goodIn_ca (goodIn_ca (goodIn_r _ [290, 282, 291, 23, 73, 74, 2, 75, 76, 77, 78, 79, 80, 81, 82, 83, 84, 85, 86, 16, 17, 368, 369, 370, 371, 372, 373, 374, 375, 376, 377, 378, 379, 380, 381, 382, 363, 364, 365, 366, 367] (by decide +kernel) (by decide +kernel)) (goodIn_sub (fun _ h => List.mem_append_left _ (List.mem_append_left _ (List.mem_append_right _ h))) (by decide +kernel))) (goodIn_sub (fun _ h => List.mem_append_left _ (List.mem_append_right _ h)) (by decide +kernel))
set_option maxRecDepth 20000 in
theorem gL_law_X2_spend : GoodIn wsL_law (wsV RL 71 RX2 yX2_spend wsX2_spend) := goodIn_app (goodIn_of _ (by decide +kernel)) ggL_law_X2_spend
set_option maxRecDepth 20000 in
theorem ggL_law_X2_setRates : GoodIn wsL_law wsX2_setRates := goodIn_ca (goodIn_ca (goodIn_r _ [295, 296, 297, 298, 73, 74, 2, 75, 76, 77, 78, 79, 80, 81, 82, 83, 84, 85, 86, 16, 17, 368, 369, 370, 371, 372, 373, 374, 375, 376, 377, 378, 379, 380, 381, 382, 363, 364, 365, 366, 367] (by decide +kernel) (by decide +kernel)) (goodIn_sub (fun _ h => List.mem_append_left _ (List.mem_append_left _ (List.mem_append_right _ h))) (by decide +kernel))) (goodIn_sub (fun _ h => List.mem_append_left _ (List.mem_append_right _ h)) (by decide +kernel))
set_option maxRecDepth 20000 in
theorem gL_law_X2_setRates : GoodIn wsL_law (wsV RL 74 RX2 yX2_setRates wsX2_setRates) := goodIn_app (goodIn_of _ (by decide +kernel)) ggL_law_X2_setRates
set_option maxRecDepth 20000 in
theorem ggL_law_X2_setCrossed : GoodIn wsL_law wsX2_setCrossed := goodIn_r _ [302, 22, 363, 364, 365, 366, 367] (by decide +kernel) (by decide +kernel)
set_option maxRecDepth 20000 in
theorem gL_law_X2_setCrossed : GoodIn wsL_law (wsV RL 78 RX2 yX2_setCrossed wsX2_setCrossed) := goodIn_app (goodIn_of _ (by decide +kernel)) ggL_law_X2_setCrossed
set_option maxRecDepth 20000 in
theorem ggL_law_X2_setFee : GoodIn wsL_law wsX2_setFee := goodIn_ca (goodIn_ca (goodIn_r _ [306, 307, 73, 74, 2, 75, 76, 77, 284, 285, 286, 78, 79, 80, 81, 82, 83, 84, 85, 86, 16, 17, 368, 369, 370, 371, 372, 373, 374, 375, 376, 377, 378, 379, 380, 381, 382, 363, 364, 365, 366, 367] (by decide +kernel) (by decide +kernel)) (goodIn_sub (fun _ h => List.mem_append_left _ (List.mem_append_left _ (List.mem_append_right _ h))) (by decide +kernel))) (goodIn_sub (fun _ h => List.mem_append_left _ (List.mem_append_right _ h)) (by decide +kernel))
set_option maxRecDepth 20000 in
theorem gL_law_X2_setFee : GoodIn wsL_law (wsV RL 82 RX2 yX2_setFee wsX2_setFee) := goodIn_app (goodIn_of _ (by decide +kernel)) ggL_law_X2_setFee
set_option maxRecDepth 20000 in
theorem ggL_law_X2_year : GoodIn wsL_law wsX2_year := goodIn_r _ [311, 23, 363, 364, 365, 366, 367] (by decide +kernel) (by decide +kernel)
set_option maxRecDepth 20000 in
theorem gL_law_X2_year : GoodIn wsL_law (wsV RL 8 RX2 yX2_year wsX2_year) := goodIn_app (goodIn_of _ (by decide +kernel)) ggL_law_X2_year
set_option maxRecDepth 20000 in
theorem ggL_law_X2_closeYear : GoodIn wsL_law wsX2_closeYear := goodIn_ca (goodIn_r _ [315, 91, 92, 23, 363, 364, 365, 366, 367] (by decide +kernel) (by decide +kernel)) (goodIn_sub (fun _ h => List.mem_append_right _ h) (by decide +kernel))
set_option maxRecDepth 20000 in
theorem gL_law_X2_closeYear : GoodIn wsL_law (wsV RL 85 RX2 yX2_closeYear wsX2_closeYear) := goodIn_app (goodIn_of _ (by decide +kernel)) ggL_law_X2_closeYear
set_option maxRecDepth 20000 in
theorem ggL_law_L_pools : GoodIn wsL_law wsL_pools := goodIn_ca (goodIn_ca (goodIn_r _ [318, 308, 309, 310, 2, 311, 23, 319, 320, 321, 322, 323, 73, 74, 75, 76, 77, 78, 79, 80, 81, 82, 201, 202, 203, 204, 16, 17, 22, 205, 206, 207, 15, 208, 209, 210, 211, 212, 213, 214, 215, 216, 217, 218, 219, 29, 220, 221, 222, 223, 224, 28, 225, 226, 227, 228, 229, 230, 231, 30, 232, 233, 234, 235, 32, 102, 103, 107, 94, 95, 20, 96, 97, 108, 109, 110, 111, 112, 113, 114, 115, 116, 117, 118, 119, 120, 121, 122, 123, 40, 236, 237, 238, 71, 239, 131, 240, 241, 67, 242, 132, 133, 243, 244, 245, 246, 247, 248, 249, 250, 251, 252, 253, 254, 255, 256, 257, 258, 34, 35, 83, 84, 85, 86, 186, 187, 188, 189, 21, 190, 191, 192, 193, 194, 93, 195, 196, 197, 198, 199, 200, 259, 260, 261, 262, 263, 264, 265, 266, 267, 268, 269, 270, 271, 272, 324, 325, 326, 327, 328, 363, 364, 365, 366, 367, 368, 369, 370, 371, 372, 373, 374, 375, 376, 377, 378, 379, 380, 381, 382, 386, 387, 388, 389, 390, 391, 392, 383, 384, 385] (by decide +kernel) (by decide +kernel)) (goodIn_sub (fun _ h => List.mem_append_left _ (List.mem_append_left _ (List.mem_append_right _ h))) (by decide +kernel))) (goodIn_sub (fun _ h => List.mem_append_left _ (List.mem_append_right _ h)) (by decide +kernel))
set_option maxRecDepth 20000 in
theorem gL_law_L_pools : GoodIn wsL_law (va_wsS RL 88 yL_pools wsL_pools) := goodIn_app (goodIn_of _ (by decide +kernel)) ggL_law_L_pools
set_option maxRecDepth 20000 in
theorem ggL_law_L_years : GoodIn wsL_law wsL_years := goodIn_ca (goodIn_ca (goodIn_r _ [331, 308, 309, 310, 2, 311, 23, 319, 320, 321, 322, 323, 73, 74, 75, 76, 77, 78, 79, 80, 81, 82, 201, 202, 203, 204, 16, 17, 22, 205, 206, 207, 15, 208, 209, 210, 211, 212, 213, 214, 215, 216, 217, 218, 219, 29, 220, 221, 222, 223, 224, 28, 225, 226, 227, 228, 229, 230, 231, 30, 232, 233, 234, 235, 32, 102, 103, 107, 94, 95, 20, 96, 97, 108, 109, 110, 111, 112, 113, 114, 115, 116, 117, 118, 119, 120, 121, 122, 123, 40, 236, 237, 238, 71, 239, 131, 240, 241, 67, 242, 132, 133, 243, 244, 245, 246, 247, 248, 249, 250, 251, 252, 253, 254, 255, 256, 257, 258, 34, 35, 83, 84, 85, 86, 332, 333, 334, 335, 336, 337, 338, 339, 340, 341, 273, 274, 275, 276, 277, 342, 343, 344, 345, 346, 363, 364, 365, 366, 367, 368, 369, 370, 371, 372, 373, 374, 375, 376, 377, 378, 379, 380, 381, 382, 386, 387, 388, 389, 390, 391, 392, 383, 384, 385] (by decide +kernel) (by decide +kernel)) (goodIn_sub (fun _ h => List.mem_append_left _ (List.mem_append_left _ (List.mem_append_right _ h))) (by decide +kernel))) (goodIn_sub (fun _ h => List.mem_append_left _ (List.mem_append_right _ h)) (by decide +kernel))
set_option maxRecDepth 20000 in
theorem gL_law_L_years : GoodIn wsL_law (va_wsS RL 92 yL_years wsL_years) := goodIn_app (goodIn_of _ (by decide +kernel)) ggL_law_L_years
set_option maxRecDepth 20000 in
theorem ggL_law_L_paid : GoodIn wsL_law wsL_paid := goodIn_ca (goodIn_ca (goodIn_r _ [349, 350, 351, 352, 2, 353, 21, 190, 354, 191, 192, 193, 194, 76, 77, 93, 94, 95, 20, 96, 97, 195, 109, 110, 111, 112, 113, 114, 115, 116, 117, 118, 119, 120, 121, 122, 123, 40, 196, 197, 198, 199, 200, 201, 202, 203, 204, 16, 17, 23, 22, 205, 206, 207, 15, 208, 209, 210, 211, 212, 213, 214, 215, 216, 217, 218, 219, 29, 220, 221, 222, 223, 224, 28, 225, 226, 227, 228, 229, 230, 231, 30, 232, 233, 234, 235, 32, 102, 103, 107, 108, 236, 237, 238, 71, 239, 131, 240, 241, 67, 242, 132, 133, 243, 244, 245, 246, 247, 248, 249, 250, 251, 252, 253, 254, 255, 256, 257, 258, 34, 35, 259, 260, 261, 262, 263, 264, 265, 266, 267, 268, 269, 270, 271, 272, 355, 356, 357, 358, 186, 187, 188, 189, 359, 360, 361, 362, 91, 92, 363, 364, 365, 366, 367, 386, 387, 388, 389, 390, 391, 392, 383, 384, 385, 368, 369, 370, 371, 372, 373, 374, 375, 376, 377, 378, 379, 380, 381, 382] (by decide +kernel) (by decide +kernel)) (goodIn_sub (fun _ h => List.mem_append_left _ (List.mem_append_left _ (List.mem_append_right _ h))) (by decide +kernel))) (goodIn_sub (fun _ h => List.mem_append_right _ h) (by decide +kernel))
set_option maxRecDepth 20000 in
theorem gL_law_L_paid : GoodIn wsL_law (va_wsS RL 96 yL_paid wsL_paid) := goodIn_app (goodIn_of _ (by decide +kernel)) ggL_law_L_paid
theorem dL_law_0 : decode cL_law 0 = .ok (.new 9, 3) := by decide +kernel
theorem dL_law_3 : decode cL_law 3 = .ok (.dup, 1) := by decide +kernel
theorem dL_law_4 : decode cL_law 4 = .ok (.invokespecial 50, 3) := by decide +kernel
theorem dL_law_7 : decode cL_law 7 = .ok (.astore_n 1, 1) := by decide +kernel
theorem dL_law_8 : decode cL_law 8 = .ok (.bipush 8, 2) := by decide +kernel
theorem dL_law_10 : decode cL_law 10 = .ok (.newarray .int, 2) := by decide +kernel
theorem dL_law_12 : decode cL_law 12 = .ok (.astore_n 2, 1) := by decide +kernel
theorem dL_law_13 : decode cL_law 13 = .ok (.bipush 8, 2) := by decide +kernel
theorem dL_law_15 : decode cL_law 15 = .ok (.newarray .int, 2) := by decide +kernel
theorem dL_law_17 : decode cL_law 17 = .ok (.astore_n 3, 1) := by decide +kernel
theorem dL_law_18 : decode cL_law 18 = .ok (.bipush 8, 2) := by decide +kernel
theorem dL_law_20 : decode cL_law 20 = .ok (.newarray .int, 2) := by decide +kernel
theorem dL_law_22 : decode cL_law 22 = .ok (.astore 4, 2) := by decide +kernel
theorem dL_law_24 : decode cL_law 24 = .ok (.iconst 1, 1) := by decide +kernel
theorem dL_law_25 : decode cL_law 25 = .ok (.newarray .int, 2) := by decide +kernel
theorem dL_law_27 : decode cL_law 27 = .ok (.astore 5, 2) := by decide +kernel
theorem dL_law_29 : decode cL_law 29 = .ok (.bipush 8, 2) := by decide +kernel
theorem dL_law_31 : decode cL_law 31 = .ok (.newarray .int, 2) := by decide +kernel
theorem dL_law_33 : decode cL_law 33 = .ok (.astore 6, 2) := by decide +kernel
theorem dL_law_35 : decode cL_law 35 = .ok (.bipush 8, 2) := by decide +kernel
theorem dL_law_37 : decode cL_law 37 = .ok (.newarray .int, 2) := by decide +kernel
theorem dL_law_39 : decode cL_law 39 = .ok (.astore 7, 2) := by decide +kernel
theorem dL_law_41 : decode cL_law 41 = .ok (.iconst 0, 1) := by decide +kernel
theorem dL_law_42 : decode cL_law 42 = .ok (.istore 8, 2) := by decide +kernel
theorem dL_law_44 : decode cL_law 44 = .ok (.iconst 0, 1) := by decide +kernel
theorem dL_law_45 : decode cL_law 45 = .ok (.istore 9, 2) := by decide +kernel
theorem dL_law_47 : decode cL_law 47 = .ok (.iload 9, 2) := by decide +kernel
theorem dL_law_49 : decode cL_law 49 = .ok (.bipush 18, 2) := by decide +kernel
theorem dL_law_51 : decode cL_law 51 = .ok (.if_icmp .ge 419, 3) := by decide +kernel
theorem dL_law_54 : decode cL_law 54 = .ok (.aload_n 0, 1) := by decide +kernel
theorem dL_law_55 : decode cL_law 55 = .ok (.iconst 2, 1) := by decide +kernel
theorem dL_law_56 : decode cL_law 56 = .ok (.iload 9, 2) := by decide +kernel
theorem dL_law_58 : decode cL_law 58 = .ok (.imul, 1) := by decide +kernel
theorem dL_law_59 : decode cL_law 59 = .ok (.invokestatic 51, 3) := by decide +kernel
theorem dL_law_62 : decode cL_law 62 = .ok (.ldc 57, 2) := by decide +kernel
theorem dL_law_64 : decode cL_law 64 = .ok (.iand, 1) := by decide +kernel
theorem dL_law_65 : decode cL_law 65 = .ok (.istore 10, 2) := by decide +kernel
theorem dL_law_67 : decode cL_law 67 = .ok (.aload_n 0, 1) := by decide +kernel
theorem dL_law_68 : decode cL_law 68 = .ok (.iconst 2, 1) := by decide +kernel
theorem dL_law_69 : decode cL_law 69 = .ok (.iload 9, 2) := by decide +kernel
theorem dL_law_71 : decode cL_law 71 = .ok (.imul, 1) := by decide +kernel
theorem dL_law_72 : decode cL_law 72 = .ok (.iconst 1, 1) := by decide +kernel
theorem dL_law_73 : decode cL_law 73 = .ok (.iadd, 1) := by decide +kernel
theorem dL_law_74 : decode cL_law 74 = .ok (.invokestatic 51, 3) := by decide +kernel
theorem dL_law_77 : decode cL_law 77 = .ok (.ldc 57, 2) := by decide +kernel
theorem dL_law_79 : decode cL_law 79 = .ok (.iand, 1) := by decide +kernel
theorem dL_law_80 : decode cL_law 80 = .ok (.istore 11, 2) := by decide +kernel
theorem dL_law_82 : decode cL_law 82 = .ok (.aload 5, 2) := by decide +kernel
theorem dL_law_84 : decode cL_law 84 = .ok (.iconst 0, 1) := by decide +kernel
theorem dL_law_85 : decode cL_law 85 = .ok (.iaload, 1) := by decide +kernel
theorem dL_law_86 : decode cL_law 86 = .ok (.istore 12, 2) := by decide +kernel
theorem dL_law_88 : decode cL_law 88 = .ok (.iload 12, 2) := by decide +kernel
theorem dL_law_90 : decode cL_law 90 = .ok (.bipush 8, 2) := by decide +kernel
theorem dL_law_92 : decode cL_law 92 = .ok (.if_icmp .ge 101, 3) := by decide +kernel
theorem dL_law_95 : decode cL_law 95 = .ok (.iload 10, 2) := by decide +kernel
theorem dL_law_97 : decode cL_law 97 = .ok (.iconst 2, 1) := by decide +kernel
theorem dL_law_98 : decode cL_law 98 = .ok (.invokestatic 58, 3) := by decide +kernel
theorem dL_law_101 : decode cL_law 101 = .ok (.ifCond .ne 92, 3) := by decide +kernel
theorem dL_law_104 : decode cL_law 104 = .ok (.aload_n 2, 1) := by decide +kernel
theorem dL_law_105 : decode cL_law 105 = .ok (.iload 12, 2) := by decide +kernel
theorem dL_law_107 : decode cL_law 107 = .ok (.iload 10, 2) := by decide +kernel
theorem dL_law_109 : decode cL_law 109 = .ok (.iconst 2, 1) := by decide +kernel
theorem dL_law_110 : decode cL_law 110 = .ok (.ishr, 1) := by decide +kernel
theorem dL_law_111 : decode cL_law 111 = .ok (.iconst 4, 1) := by decide +kernel
theorem dL_law_112 : decode cL_law 112 = .ok (.invokestatic 58, 3) := by decide +kernel
theorem dL_law_115 : decode cL_law 115 = .ok (.iastore, 1) := by decide +kernel
theorem dL_law_116 : decode cL_law 116 = .ok (.aload_n 3, 1) := by decide +kernel
theorem dL_law_117 : decode cL_law 117 = .ok (.iload 12, 2) := by decide +kernel
theorem dL_law_119 : decode cL_law 119 = .ok (.iload 10, 2) := by decide +kernel
theorem dL_law_121 : decode cL_law 121 = .ok (.iconst 4, 1) := by decide +kernel
theorem dL_law_122 : decode cL_law 122 = .ok (.ishr, 1) := by decide +kernel
theorem dL_law_123 : decode cL_law 123 = .ok (.iconst 2, 1) := by decide +kernel
theorem dL_law_124 : decode cL_law 124 = .ok (.invokestatic 58, 3) := by decide +kernel
theorem dL_law_127 : decode cL_law 127 = .ok (.iastore, 1) := by decide +kernel
theorem dL_law_128 : decode cL_law 128 = .ok (.aload 4, 2) := by decide +kernel
theorem dL_law_130 : decode cL_law 130 = .ok (.iload 12, 2) := by decide +kernel
theorem dL_law_132 : decode cL_law 132 = .ok (.iload 11, 2) := by decide +kernel
theorem dL_law_134 : decode cL_law 134 = .ok (.ldc 61, 2) := by decide +kernel
theorem dL_law_136 : decode cL_law 136 = .ok (.invokestatic 58, 3) := by decide +kernel
theorem dL_law_139 : decode cL_law 139 = .ok (.iastore, 1) := by decide +kernel
theorem dL_law_140 : decode cL_law 140 = .ok (.aload_n 1, 1) := by decide +kernel
theorem dL_law_141 : decode cL_law 141 = .ok (.aload_n 3, 1) := by decide +kernel
theorem dL_law_142 : decode cL_law 142 = .ok (.iload 12, 2) := by decide +kernel
theorem dL_law_144 : decode cL_law 144 = .ok (.iaload, 1) := by decide +kernel
theorem dL_law_145 : decode cL_law 145 = .ok (.aload_n 2, 1) := by decide +kernel
theorem dL_law_146 : decode cL_law 146 = .ok (.iload 12, 2) := by decide +kernel
theorem dL_law_148 : decode cL_law 148 = .ok (.iaload, 1) := by decide +kernel
theorem dL_law_149 : decode cL_law 149 = .ok (.aload 4, 2) := by decide +kernel
theorem dL_law_151 : decode cL_law 151 = .ok (.iload 12, 2) := by decide +kernel
theorem dL_law_153 : decode cL_law 153 = .ok (.iaload, 1) := by decide +kernel
theorem dL_law_154 : decode cL_law 154 = .ok (.iload 10, 2) := by decide +kernel
theorem dL_law_156 : decode cL_law 156 = .ok (.bipush 6, 2) := by decide +kernel
theorem dL_law_158 : decode cL_law 158 = .ok (.ishr, 1) := by decide +kernel
theorem dL_law_159 : decode cL_law 159 = .ok (.sipush 1001, 3) := by decide +kernel
theorem dL_law_162 : decode cL_law 162 = .ok (.invokestatic 58, 3) := by decide +kernel
theorem dL_law_165 : decode cL_law 165 = .ok (.iload 11, 2) := by decide +kernel
theorem dL_law_167 : decode cL_law 167 = .ok (.iconst 4, 1) := by decide +kernel
theorem dL_law_168 : decode cL_law 168 = .ok (.ishr, 1) := by decide +kernel
theorem dL_law_169 : decode cL_law 169 = .ok (.sipush 1001, 3) := by decide +kernel
theorem dL_law_172 : decode cL_law 172 = .ok (.invokestatic 58, 3) := by decide +kernel
theorem dL_law_175 : decode cL_law 175 = .ok (.invokevirtual 62, 3) := by decide +kernel
theorem dL_law_178 : decode cL_law 178 = .ok (.iload 12, 2) := by decide +kernel
theorem dL_law_180 : decode cL_law 180 = .ok (.if_icmp .eq 5, 3) := by decide +kernel
theorem dL_law_183 : decode cL_law 183 = .ok (.iconst 0, 1) := by decide +kernel
theorem dL_law_184 : decode cL_law 184 = .ok (.ireturn, 1) := by decide +kernel
theorem dL_law_185 : decode cL_law 185 = .ok (.aload 5, 2) := by decide +kernel
theorem dL_law_187 : decode cL_law 187 = .ok (.iconst 0, 1) := by decide +kernel
theorem dL_law_188 : decode cL_law 188 = .ok (.dup2, 1) := by decide +kernel
theorem dL_law_189 : decode cL_law 189 = .ok (.iaload, 1) := by decide +kernel
theorem dL_law_190 : decode cL_law 190 = .ok (.iconst 1, 1) := by decide +kernel
theorem dL_law_191 : decode cL_law 191 = .ok (.iadd, 1) := by decide +kernel
theorem dL_law_192 : decode cL_law 192 = .ok (.iastore, 1) := by decide +kernel
theorem dL_law_193 : decode cL_law 193 = .ok (.aload_n 1, 1) := by decide +kernel
theorem dL_law_194 : decode cL_law 194 = .ok (.iload 11, 2) := by decide +kernel
theorem dL_law_196 : decode cL_law 196 = .ok (.iconst 3, 1) := by decide +kernel
theorem dL_law_197 : decode cL_law 197 = .ok (.ishr, 1) := by decide +kernel
theorem dL_law_198 : decode cL_law 198 = .ok (.iconst 2, 1) := by decide +kernel
theorem dL_law_199 : decode cL_law 199 = .ok (.invokestatic 58, 3) := by decide +kernel
theorem dL_law_202 : decode cL_law 202 = .ok (.iload 11, 2) := by decide +kernel
theorem dL_law_204 : decode cL_law 204 = .ok (.iconst 5, 1) := by decide +kernel
theorem dL_law_205 : decode cL_law 205 = .ok (.ishr, 1) := by decide +kernel
theorem dL_law_206 : decode cL_law 206 = .ok (.iconst 4, 1) := by decide +kernel
theorem dL_law_207 : decode cL_law 207 = .ok (.invokestatic 58, 3) := by decide +kernel
theorem dL_law_210 : decode cL_law 210 = .ok (.iconst 1, 1) := by decide +kernel
theorem dL_law_211 : decode cL_law 211 = .ok (.iload 10, 2) := by decide +kernel
theorem dL_law_213 : decode cL_law 213 = .ok (.bipush 7, 2) := by decide +kernel
theorem dL_law_215 : decode cL_law 215 = .ok (.ishr, 1) := by decide +kernel
theorem dL_law_216 : decode cL_law 216 = .ok (.ldc 61, 2) := by decide +kernel
theorem dL_law_218 : decode cL_law 218 = .ok (.invokestatic 58, 3) := by decide +kernel
theorem dL_law_221 : decode cL_law 221 = .ok (.iadd, 1) := by decide +kernel
theorem dL_law_222 : decode cL_law 222 = .ok (.aload_n 2, 1) := by decide +kernel
theorem dL_law_223 : decode cL_law 223 = .ok (.aload 5, 2) := by decide +kernel
theorem dL_law_225 : decode cL_law 225 = .ok (.aload 7, 2) := by decide +kernel
theorem dL_law_227 : decode cL_law 227 = .ok (.invokestatic 66, 3) := by decide +kernel
theorem dL_law_230 : decode cL_law 230 = .ok (.ifCond .eq 31, 3) := by decide +kernel
theorem dL_law_233 : decode cL_law 233 = .ok (.aload_n 1, 1) := by decide +kernel
theorem dL_law_234 : decode cL_law 234 = .ok (.iload 10, 2) := by decide +kernel
theorem dL_law_236 : decode cL_law 236 = .ok (.iconst 5, 1) := by decide +kernel
theorem dL_law_237 : decode cL_law 237 = .ok (.ishr, 1) := by decide +kernel
theorem dL_law_238 : decode cL_law 238 = .ok (.iconst 2, 1) := by decide +kernel
theorem dL_law_239 : decode cL_law 239 = .ok (.invokestatic 58, 3) := by decide +kernel
theorem dL_law_242 : decode cL_law 242 = .ok (.iconst 1, 1) := by decide +kernel
theorem dL_law_243 : decode cL_law 243 = .ok (.iload 11, 2) := by decide +kernel
theorem dL_law_245 : decode cL_law 245 = .ok (.bipush 8, 2) := by decide +kernel
theorem dL_law_247 : decode cL_law 247 = .ok (.ishr, 1) := by decide +kernel
theorem dL_law_248 : decode cL_law 248 = .ok (.ldc 70, 2) := by decide +kernel
theorem dL_law_250 : decode cL_law 250 = .ok (.invokestatic 58, 3) := by decide +kernel
theorem dL_law_253 : decode cL_law 253 = .ok (.iadd, 1) := by decide +kernel
theorem dL_law_254 : decode cL_law 254 = .ok (.invokevirtual 71, 3) := by decide +kernel
theorem dL_law_257 : decode cL_law 257 = .ok (.iconst 1, 1) := by decide +kernel
theorem dL_law_258 : decode cL_law 258 = .ok (.if_icmp .ge 5, 3) := by decide +kernel
theorem dL_law_261 : decode cL_law 261 = .ok (.iconst 0, 1) := by decide +kernel
theorem dL_law_262 : decode cL_law 262 = .ok (.ireturn, 1) := by decide +kernel
theorem dL_law_263 : decode cL_law 263 = .ok (.iload 11, 2) := by decide +kernel
theorem dL_law_265 : decode cL_law 265 = .ok (.bipush 9, 2) := by decide +kernel
theorem dL_law_267 : decode cL_law 267 = .ok (.ishr, 1) := by decide +kernel
theorem dL_law_268 : decode cL_law 268 = .ok (.iconst 4, 1) := by decide +kernel
theorem dL_law_269 : decode cL_law 269 = .ok (.invokestatic 58, 3) := by decide +kernel
theorem dL_law_272 : decode cL_law 272 = .ok (.ifCond .ne 47, 3) := by decide +kernel
theorem dL_law_275 : decode cL_law 275 = .ok (.aload_n 1, 1) := by decide +kernel
theorem dL_law_276 : decode cL_law 276 = .ok (.iload 10, 2) := by decide +kernel
theorem dL_law_278 : decode cL_law 278 = .ok (.iconst 3, 1) := by decide +kernel
theorem dL_law_279 : decode cL_law 279 = .ok (.ishr, 1) := by decide +kernel
theorem dL_law_280 : decode cL_law 280 = .ok (.iconst 2, 1) := by decide +kernel
theorem dL_law_281 : decode cL_law 281 = .ok (.invokestatic 58, 3) := by decide +kernel
theorem dL_law_284 : decode cL_law 284 = .ok (.iload 11, 2) := by decide +kernel
theorem dL_law_286 : decode cL_law 286 = .ok (.iconst 2, 1) := by decide +kernel
theorem dL_law_287 : decode cL_law 287 = .ok (.ishr, 1) := by decide +kernel
theorem dL_law_288 : decode cL_law 288 = .ok (.sipush 3000, 3) := by decide +kernel
theorem dL_law_291 : decode cL_law 291 = .ok (.invokestatic 58, 3) := by decide +kernel
theorem dL_law_294 : decode cL_law 294 = .ok (.iload 10, 2) := by decide +kernel
theorem dL_law_296 : decode cL_law 296 = .ok (.bipush 8, 2) := by decide +kernel
theorem dL_law_298 : decode cL_law 298 = .ok (.ishr, 1) := by decide +kernel
theorem dL_law_299 : decode cL_law 299 = .ok (.sipush 3000, 3) := by decide +kernel
theorem dL_law_302 : decode cL_law 302 = .ok (.invokestatic 58, 3) := by decide +kernel
theorem dL_law_305 : decode cL_law 305 = .ok (.iload 11, 2) := by decide +kernel
theorem dL_law_307 : decode cL_law 307 = .ok (.bipush 6, 2) := by decide +kernel
theorem dL_law_309 : decode cL_law 309 = .ok (.ishr, 1) := by decide +kernel
theorem dL_law_310 : decode cL_law 310 = .ok (.sipush 1200, 3) := by decide +kernel
theorem dL_law_313 : decode cL_law 313 = .ok (.invokestatic 58, 3) := by decide +kernel
theorem dL_law_316 : decode cL_law 316 = .ok (.invokevirtual 74, 3) := by decide +kernel
theorem dL_law_319 : decode cL_law 319 = .ok (.iload 10, 2) := by decide +kernel
theorem dL_law_321 : decode cL_law 321 = .ok (.bipush 9, 2) := by decide +kernel
theorem dL_law_323 : decode cL_law 323 = .ok (.ishr, 1) := by decide +kernel
theorem dL_law_324 : decode cL_law 324 = .ok (.iconst 3, 1) := by decide +kernel
theorem dL_law_325 : decode cL_law 325 = .ok (.invokestatic 58, 3) := by decide +kernel
theorem dL_law_328 : decode cL_law 328 = .ok (.ifCond .ne 39, 3) := by decide +kernel
theorem dL_law_331 : decode cL_law 331 = .ok (.iload 11, 2) := by decide +kernel
theorem dL_law_333 : decode cL_law 333 = .ok (.bipush 7, 2) := by decide +kernel
theorem dL_law_335 : decode cL_law 335 = .ok (.ishr, 1) := by decide +kernel
theorem dL_law_336 : decode cL_law 336 = .ok (.iconst 2, 1) := by decide +kernel
theorem dL_law_337 : decode cL_law 337 = .ok (.invokestatic 58, 3) := by decide +kernel
theorem dL_law_340 : decode cL_law 340 = .ok (.ifCond .ne 7, 3) := by decide +kernel
theorem dL_law_343 : decode cL_law 343 = .ok (.iconst 1, 1) := by decide +kernel
theorem dL_law_344 : decode cL_law 344 = .ok (.goto 4, 3) := by decide +kernel
theorem dL_law_347 : decode cL_law 347 = .ok (.iconst 0, 1) := by decide +kernel
theorem dL_law_348 : decode cL_law 348 = .ok (.istore 13, 2) := by decide +kernel
theorem dL_law_350 : decode cL_law 350 = .ok (.aload_n 1, 1) := by decide +kernel
theorem dL_law_351 : decode cL_law 351 = .ok (.iload 13, 2) := by decide +kernel
theorem dL_law_353 : decode cL_law 353 = .ok (.invokevirtual 78, 3) := by decide +kernel
theorem dL_law_356 : decode cL_law 356 = .ok (.iload 8, 2) := by decide +kernel
theorem dL_law_358 : decode cL_law 358 = .ok (.if_icmp .eq 5, 3) := by decide +kernel
theorem dL_law_361 : decode cL_law 361 = .ok (.iconst 0, 1) := by decide +kernel
theorem dL_law_362 : decode cL_law 362 = .ok (.ireturn, 1) := by decide +kernel
theorem dL_law_363 : decode cL_law 363 = .ok (.iload 13, 2) := by decide +kernel
theorem dL_law_365 : decode cL_law 365 = .ok (.istore 8, 2) := by decide +kernel
theorem dL_law_367 : decode cL_law 367 = .ok (.aload_n 1, 1) := by decide +kernel
theorem dL_law_368 : decode cL_law 368 = .ok (.iload 10, 2) := by decide +kernel
theorem dL_law_370 : decode cL_law 370 = .ok (.iconst 2, 1) := by decide +kernel
theorem dL_law_371 : decode cL_law 371 = .ok (.invokestatic 58, 3) := by decide +kernel
theorem dL_law_374 : decode cL_law 374 = .ok (.iload 10, 2) := by decide +kernel
theorem dL_law_376 : decode cL_law 376 = .ok (.bipush 6, 2) := by decide +kernel
theorem dL_law_378 : decode cL_law 378 = .ok (.ishr, 1) := by decide +kernel
theorem dL_law_379 : decode cL_law 379 = .ok (.iconst 4, 1) := by decide +kernel
theorem dL_law_380 : decode cL_law 380 = .ok (.invokestatic 58, 3) := by decide +kernel
theorem dL_law_383 : decode cL_law 383 = .ok (.iload 11, 2) := by decide +kernel
theorem dL_law_385 : decode cL_law 385 = .ok (.bipush 10, 2) := by decide +kernel
theorem dL_law_387 : decode cL_law 387 = .ok (.ishr, 1) := by decide +kernel
theorem dL_law_388 : decode cL_law 388 = .ok (.sipush 2000, 3) := by decide +kernel
theorem dL_law_391 : decode cL_law 391 = .ok (.invokestatic 58, 3) := by decide +kernel
theorem dL_law_394 : decode cL_law 394 = .ok (.invokevirtual 82, 3) := by decide +kernel
theorem dL_law_397 : decode cL_law 397 = .ok (.ifCond .ge 5, 3) := by decide +kernel
theorem dL_law_400 : decode cL_law 400 = .ok (.iconst 0, 1) := by decide +kernel
theorem dL_law_401 : decode cL_law 401 = .ok (.ireturn, 1) := by decide +kernel
theorem dL_law_402 : decode cL_law 402 = .ok (.iload 9, 2) := by decide +kernel
theorem dL_law_404 : decode cL_law 404 = .ok (.iconst 2, 1) := by decide +kernel
theorem dL_law_405 : decode cL_law 405 = .ok (.irem, 1) := by decide +kernel
theorem dL_law_406 : decode cL_law 406 = .ok (.iconst 1, 1) := by decide +kernel
theorem dL_law_407 : decode cL_law 407 = .ok (.if_icmp .ne 22, 3) := by decide +kernel
theorem dL_law_410 : decode cL_law 410 = .ok (.aload_n 1, 1) := by decide +kernel
theorem dL_law_411 : decode cL_law 411 = .ok (.invokevirtual 8, 3) := by decide +kernel
theorem dL_law_414 : decode cL_law 414 = .ok (.bipush 9, 2) := by decide +kernel
theorem dL_law_416 : decode cL_law 416 = .ok (.if_icmp .ge 13, 3) := by decide +kernel
theorem dL_law_419 : decode cL_law 419 = .ok (.aload_n 1, 1) := by decide +kernel
theorem dL_law_420 : decode cL_law 420 = .ok (.invokevirtual 85, 3) := by decide +kernel
theorem dL_law_423 : decode cL_law 423 = .ok (.iconst 1, 1) := by decide +kernel
theorem dL_law_424 : decode cL_law 424 = .ok (.if_icmp .ge 5, 3) := by decide +kernel
theorem dL_law_427 : decode cL_law 427 = .ok (.iconst 0, 1) := by decide +kernel
theorem dL_law_428 : decode cL_law 428 = .ok (.ireturn, 1) := by decide +kernel
theorem dL_law_429 : decode cL_law 429 = .ok (.aload_n 1, 1) := by decide +kernel
theorem dL_law_430 : decode cL_law 430 = .ok (.aload_n 2, 1) := by decide +kernel
theorem dL_law_431 : decode cL_law 431 = .ok (.aload_n 3, 1) := by decide +kernel
theorem dL_law_432 : decode cL_law 432 = .ok (.aload 4, 2) := by decide +kernel
theorem dL_law_434 : decode cL_law 434 = .ok (.aload 5, 2) := by decide +kernel
theorem dL_law_436 : decode cL_law 436 = .ok (.invokestatic 88, 3) := by decide +kernel
theorem dL_law_439 : decode cL_law 439 = .ok (.ifCond .eq 23, 3) := by decide +kernel
theorem dL_law_442 : decode cL_law 442 = .ok (.aload_n 1, 1) := by decide +kernel
theorem dL_law_443 : decode cL_law 443 = .ok (.iload 8, 2) := by decide +kernel
theorem dL_law_445 : decode cL_law 445 = .ok (.invokestatic 92, 3) := by decide +kernel
theorem dL_law_448 : decode cL_law 448 = .ok (.ifCond .eq 14, 3) := by decide +kernel
theorem dL_law_451 : decode cL_law 451 = .ok (.aload_n 1, 1) := by decide +kernel
theorem dL_law_452 : decode cL_law 452 = .ok (.aload 5, 2) := by decide +kernel
theorem dL_law_454 : decode cL_law 454 = .ok (.aload 6, 2) := by decide +kernel
theorem dL_law_456 : decode cL_law 456 = .ok (.invokestatic 96, 3) := by decide +kernel
theorem dL_law_459 : decode cL_law 459 = .ok (.ifCond .ne 5, 3) := by decide +kernel
theorem dL_law_462 : decode cL_law 462 = .ok (.iconst 0, 1) := by decide +kernel
theorem dL_law_463 : decode cL_law 463 = .ok (.ireturn, 1) := by decide +kernel
theorem dL_law_464 : decode cL_law 464 = .ok (.iinc 9 1, 3) := by decide +kernel
theorem dL_law_467 : decode cL_law 467 = .ok (.goto (-420), 3) := by decide +kernel
theorem dL_law_470 : decode cL_law 470 = .ok (.iconst 1, 1) := by decide +kernel
theorem dL_law_471 : decode cL_law 471 = .ok (.ireturn, 1) := by decide +kernel
abbrev vwCl : List vw_C := [(RJx4a65c, TJx4a65c, 3), (RX0, TX0, 15), (RX1, TX1, 7), (RX2, TX2, 5)]
