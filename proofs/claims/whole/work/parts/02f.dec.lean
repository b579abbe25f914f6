set_option maxRecDepth 20000 in
theorem gX2_pay_X2_requireSharer : GoodIn wsX2_pay (wsV RX2 108 RX2 yX2_requireSharer wsX2_requireSharer) := goodIn_app (goodIn_of _ (by decide +kernel)) ggX2_pay_X2_requireSharer
set_option maxRecDepth 20000 in
theorem ggX2_pay_Jx4a65c_get_915e3 : GoodIn wsX2_pay wsJx4a65c_get_915e3 := goodIn_r _ [22, 18, 23, 24, 25, 26, 27, 28, 29, 30, 31, 32, 33, 16, 34, 35, 145, 146, 147] (by decide +kernel) (by decide +kernel)
set_option maxRecDepth 20000 in
theorem gX2_pay_Jx4a65c_get_915e3 : GoodIn wsX2_pay (wsV RX2 111 RJx4a65c yJx4a65c_get_915e3 wsJx4a65c_get_915e3) := goodIn_app (goodIn_of _ (by decide +kernel)) ggX2_pay_Jx4a65c_get_915e3
set_option maxRecDepth 20000 in
theorem ggX2_pay_X2_drawnSum : GoodIn wsX2_pay wsX2_drawnSum := goodIn_r _ [39, 40, 41, 42, 43, 9, 44, 45, 46, 47, 48, 49, 50, 51, 52, 53, 54, 55, 56, 57, 58, 59, 60, 61, 62, 63, 64, 65, 66, 67, 68, 69, 70, 71, 72, 73, 74, 75, 76, 77, 78, 79, 80, 81, 82, 83, 84, 85, 86, 87, 14, 15, 16, 17, 18, 88, 20, 21, 22, 23, 24, 25, 26, 27, 28, 29, 30, 31, 32, 33, 34, 35, 89, 90, 91, 92, 93, 94, 95, 96, 97, 98, 99, 100, 101, 102, 103, 104, 105, 106, 107, 108, 109, 110, 111, 112, 113, 114, 115, 116, 117, 118, 119, 120, 121, 122, 123, 124, 125, 126, 127, 128, 129, 130, 131, 132, 138, 139, 140, 141, 142, 143, 144, 133, 134, 135, 136, 137, 148, 149, 150, 151, 152, 153, 154, 155, 156, 157, 158, 159, 160, 161, 162, 145, 146, 147] (by decide +kernel) (by decide +kernel)
set_option maxRecDepth 20000 in
theorem gX2_pay_X2_drawnSum : GoodIn wsX2_pay (wsV RX2 115 RX2 yX2_drawnSum wsX2_drawnSum) := goodIn_app (goodIn_of _ (by decide +kernel)) ggX2_pay_X2_drawnSum
theorem dX2_pay_0 : decode cX2_pay 0 = .ok (.aload_n 0, 1) := by decide +kernel
theorem dX2_pay_1 : decode cX2_pay 1 = .ok (.iload_n 1, 1) := by decide +kernel
theorem dX2_pay_2 : decode cX2_pay 2 = .ok (.invokevirtual 108, 3) := by decide +kernel
theorem dX2_pay_5 : decode cX2_pay 5 = .ok (.aload_n 0, 1) := by decide +kernel
theorem dX2_pay_6 : decode cX2_pay 6 = .ok (.getfield 22, 3) := by decide +kernel
theorem dX2_pay_9 : decode cX2_pay 9 = .ok (.iload_n 1, 1) := by decide +kernel
theorem dX2_pay_10 : decode cX2_pay 10 = .ok (.invokevirtual 111, 3) := by decide +kernel
theorem dX2_pay_13 : decode cX2_pay 13 = .ok (.checkcast 73, 3) := by decide +kernel
theorem dX2_pay_16 : decode cX2_pay 16 = .ok (.astore_n 2, 1) := by decide +kernel
theorem dX2_pay_17 : decode cX2_pay 17 = .ok (.aload_n 0, 1) := by decide +kernel
theorem dX2_pay_18 : decode cX2_pay 18 = .ok (.aload_n 2, 1) := by decide +kernel
theorem dX2_pay_19 : decode cX2_pay 19 = .ok (.invokevirtual 115, 3) := by decide +kernel
theorem dX2_pay_22 : decode cX2_pay 22 = .ok (.aload_n 2, 1) := by decide +kernel
theorem dX2_pay_23 : decode cX2_pay 23 = .ok (.getfield 119, 3) := by decide +kernel
theorem dX2_pay_26 : decode cX2_pay 26 = .ok (.lsub, 1) := by decide +kernel
theorem dX2_pay_27 : decode cX2_pay 27 = .ok (.lstore_n 3, 1) := by decide +kernel
theorem dX2_pay_28 : decode cX2_pay 28 = .ok (.lload_n 3, 1) := by decide +kernel
theorem dX2_pay_29 : decode cX2_pay 29 = .ok (.lconst 0, 1) := by decide +kernel
theorem dX2_pay_30 : decode cX2_pay 30 = .ok (.lcmp, 1) := by decide +kernel
theorem dX2_pay_31 : decode cX2_pay 31 = .ok (.ifCond .gt 13, 3) := by decide +kernel
theorem dX2_pay_34 : decode cX2_pay 34 = .ok (.new 101, 3) := by decide +kernel
theorem dX2_pay_37 : decode cX2_pay 37 = .ok (.dup, 1) := by decide +kernel
theorem dX2_pay_38 : decode cX2_pay 38 = .ok (.ldc 123, 2) := by decide +kernel
theorem dX2_pay_40 : decode cX2_pay 40 = .ok (.invokespecial 105, 3) := by decide +kernel
theorem dX2_pay_43 : decode cX2_pay 43 = .ok (.athrow, 1) := by decide +kernel
theorem dX2_pay_44 : decode cX2_pay 44 = .ok (.aload_n 2, 1) := by decide +kernel
theorem dX2_pay_45 : decode cX2_pay 45 = .ok (.dup, 1) := by decide +kernel
theorem dX2_pay_46 : decode cX2_pay 46 = .ok (.getfield 119, 3) := by decide +kernel
theorem dX2_pay_49 : decode cX2_pay 49 = .ok (.lload_n 3, 1) := by decide +kernel
theorem dX2_pay_50 : decode cX2_pay 50 = .ok (.ladd, 1) := by decide +kernel
theorem dX2_pay_51 : decode cX2_pay 51 = .ok (.putfield 119, 3) := by decide +kernel
theorem dX2_pay_54 : decode cX2_pay 54 = .ok (.lload_n 3, 1) := by decide +kernel
theorem dX2_pay_55 : decode cX2_pay 55 = .ok (.l2i, 1) := by decide +kernel
theorem dX2_pay_56 : decode cX2_pay 56 = .ok (.ireturn, 1) := by decide +kernel
theorem dX2_year_0 : decode cX2_year 0 = .ok (.aload_n 0, 1) := by decide +kernel
theorem dX2_year_1 : decode cX2_year 1 = .ok (.getfield 30, 3) := by decide +kernel
theorem dX2_year_4 : decode cX2_year 4 = .ok (.ireturn, 1) := by decide +kernel
set_option maxRecDepth 20000 in
theorem ggX2_gross_X2_requirePicture : GoodIn wsX2_gross wsX2_requirePicture := goodIn_ca (goodIn_r _ [5, 6, 7] (by decide +kernel) (by decide +kernel)) (goodIn_sub (fun _ h => List.mem_cons_of_mem _ (List.mem_append_right _ h)) (by decide +kernel))
set_option maxRecDepth 20000 in
theorem gX2_gross_X2_requirePicture : GoodIn wsX2_gross (va_wsS RX2 34 yX2_requirePicture wsX2_requirePicture) := goodIn_app (goodIn_of _ (by decide +kernel)) ggX2_gross_X2_requirePicture
set_option maxRecDepth 20000 in
theorem ggX2_gross_X2_drawBooks : GoodIn wsX2_gross wsX2_drawBooks := goodIn_r _ [11, 12, 13, 14, 15, 16, 17, 18, 19, 20, 21, 22, 23, 24, 25, 26, 27, 28, 29, 30, 31, 32, 33, 34, 35, 36, 37, 38, 39, 4, 40, 41, 42, 43, 44, 45, 46, 47, 48, 49, 50, 51, 52, 53, 54, 55, 56, 57, 58, 59, 60, 61, 62, 63, 64, 65, 66, 67, 68, 69, 70, 71, 72, 73, 74, 75, 76, 77, 78, 79, 80, 81, 82, 83, 84, 85, 86, 87, 88, 89, 90, 91, 92, 93, 94, 95, 96, 97, 98, 99, 100, 101, 102, 103, 104, 105, 106, 126, 127, 128, 129, 130, 111, 112, 113, 114, 115, 116, 117, 118, 119, 120, 121, 122, 123, 124, 125, 131, 132, 133, 134, 135, 136, 137, 138, 139, 140] (by decide +kernel) (by decide +kernel)
set_option maxRecDepth 20000 in
theorem gX2_gross_X2_drawBooks : GoodIn wsX2_gross (wsV RX2 125 RX2 yX2_drawBooks wsX2_drawBooks) := goodIn_app (goodIn_of _ (by decide +kernel)) ggX2_gross_X2_drawBooks
set_option maxRecDepth 20000 in
theorem ggX2_gross_X2_pictureOf : GoodIn wsX2_gross wsX2_pictureOf := goodIn_r _ [110, 12, 13, 126, 127, 128, 129, 130] (by decide +kernel) (by decide +kernel)
set_option maxRecDepth 20000 in
theorem gX2_gross_X2_pictureOf : GoodIn wsX2_gross (wsV RX2 42 RX2 yX2_pictureOf wsX2_pictureOf) := goodIn_app (goodIn_of _ (by decide +kernel)) ggX2_gross_X2_pictureOf
theorem dX2_gross_0 : decode cX2_gross 0 = .ok (.iload_n 1, 1) := by decide +kernel
theorem dX2_gross_1 : decode cX2_gross 1 = .ok (.invokestatic 34, 3) := by decide +kernel
theorem dX2_gross_4 : decode cX2_gross 4 = .ok (.aload_n 0, 1) := by decide +kernel
theorem dX2_gross_5 : decode cX2_gross 5 = .ok (.invokevirtual 125, 3) := by decide +kernel
theorem dX2_gross_8 : decode cX2_gross 8 = .ok (.aload_n 0, 1) := by decide +kernel
theorem dX2_gross_9 : decode cX2_gross 9 = .ok (.iload_n 1, 1) := by decide +kernel
theorem dX2_gross_10 : decode cX2_gross 10 = .ok (.invokevirtual 42, 3) := by decide +kernel
theorem dX2_gross_13 : decode cX2_gross 13 = .ok (.getfield 128, 3) := by decide +kernel
theorem dX2_gross_16 : decode cX2_gross 16 = .ok (.l2i, 1) := by decide +kernel
theorem dX2_gross_17 : decode cX2_gross 17 = .ok (.ireturn, 1) := by decide +kernel
set_option maxRecDepth 20000 in
theorem ggX2_adjusted_X2_requirePicture : GoodIn wsX2_adjusted wsX2_requirePicture := goodIn_ca (goodIn_r _ [5, 6, 7] (by decide +kernel) (by decide +kernel)) (goodIn_sub (fun _ h => List.mem_cons_of_mem _ (List.mem_append_right _ h)) (by decide +kernel))
set_option maxRecDepth 20000 in
theorem gX2_adjusted_X2_requirePicture : GoodIn wsX2_adjusted (va_wsS RX2 34 yX2_requirePicture wsX2_requirePicture) := goodIn_app (goodIn_of _ (by decide +kernel)) ggX2_adjusted_X2_requirePicture
set_option maxRecDepth 20000 in
theorem ggX2_adjusted_X2_drawBooks : GoodIn wsX2_adjusted wsX2_drawBooks := goodIn_r _ [11, 12, 13, 14, 15, 16, 17, 18, 19, 20, 21, 22, 23, 24, 25, 26, 27, 28, 29, 30, 31, 32, 33, 34, 35, 36, 37, 38, 39, 4, 40, 41, 42, 43, 44, 45, 46, 47, 48, 49, 50, 51, 52, 53, 54, 55, 56, 57, 58, 59, 60, 61, 62, 63, 64, 65, 66, 67, 68, 69, 70, 71, 72, 73, 74, 75, 76, 77, 78, 79, 80, 81, 82, 83, 84, 85, 86, 87, 88, 89, 90, 91, 92, 93, 94, 95, 96, 97, 98, 99, 100, 101, 102, 103, 104, 105, 106, 126, 127, 128, 129, 130, 111, 112, 113, 114, 115, 116, 117, 118, 119, 120, 121, 122, 123, 124, 125, 131, 132, 133, 134, 135, 136, 137, 138, 139, 140] (by decide +kernel) (by decide +kernel)
set_option maxRecDepth 20000 in
theorem gX2_adjusted_X2_drawBooks : GoodIn wsX2_adjusted (wsV RX2 125 RX2 yX2_drawBooks wsX2_drawBooks) := goodIn_app (goodIn_of _ (by decide +kernel)) ggX2_adjusted_X2_drawBooks
set_option maxRecDepth 20000 in
theorem ggX2_adjusted_X2_pictureOf : GoodIn wsX2_adjusted wsX2_pictureOf := goodIn_r _ [110, 12, 13, 126, 127, 128, 129, 130] (by decide +kernel) (by decide +kernel)
set_option maxRecDepth 20000 in
theorem gX2_adjusted_X2_pictureOf : GoodIn wsX2_adjusted (wsV RX2 42 RX2 yX2_pictureOf wsX2_pictureOf) := goodIn_app (goodIn_of _ (by decide +kernel)) ggX2_adjusted_X2_pictureOf
theorem dX2_adjusted_0 : decode cX2_adjusted 0 = .ok (.iload_n 1, 1) := by decide +kernel
theorem dX2_adjusted_1 : decode cX2_adjusted 1 = .ok (.invokestatic 34, 3) := by decide +kernel
theorem dX2_adjusted_4 : decode cX2_adjusted 4 = .ok (.aload_n 0, 1) := by decide +kernel
theorem dX2_adjusted_5 : decode cX2_adjusted 5 = .ok (.invokevirtual 125, 3) := by decide +kernel
theorem dX2_adjusted_8 : decode cX2_adjusted 8 = .ok (.aload_n 0, 1) := by decide +kernel
theorem dX2_adjusted_9 : decode cX2_adjusted 9 = .ok (.iload_n 1, 1) := by decide +kernel
theorem dX2_adjusted_10 : decode cX2_adjusted 10 = .ok (.invokevirtual 42, 3) := by decide +kernel
theorem dX2_adjusted_13 : decode cX2_adjusted 13 = .ok (.getfield 131, 3) := by decide +kernel
theorem dX2_adjusted_16 : decode cX2_adjusted 16 = .ok (.l2i, 1) := by decide +kernel
theorem dX2_adjusted_17 : decode cX2_adjusted 17 = .ok (.ireturn, 1) := by decide +kernel
set_option maxRecDepth 20000 in
theorem ggX2_fees_X2_requirePicture : GoodIn wsX2_fees wsX2_requirePicture := goodIn_ca (goodIn_r _ [5, 6, 7] (by decide +kernel) (by decide +kernel)) (goodIn_sub (fun _ h => List.mem_cons_of_mem _ (List.mem_append_right _ h)) (by decide +kernel))
set_option maxRecDepth 20000 in
theorem gX2_fees_X2_requirePicture : GoodIn wsX2_fees (va_wsS RX2 34 yX2_requirePicture wsX2_requirePicture) := goodIn_app (goodIn_of _ (by decide +kernel)) ggX2_fees_X2_requirePicture
set_option maxRecDepth 20000 in
theorem ggX2_fees_X2_drawBooks : GoodIn wsX2_fees wsX2_drawBooks := goodIn_r _ [11, 12, 13, 14, 15, 16, 17, 18, 19, 20, 21, 22, 23, 24, 25, 26, 27, 28, 29, 30, 31, 32, 33, 34, 35, 36, 37, 38, 39, 4, 40, 41, 42, 43, 44, 45, 46, 47, 48, 49, 50, 51, 52, 53, 54, 55, 56, 57, 58, 59, 60, 61, 62, 63, 64, 65, 66, 67, 68, 69, 70, 71, 72, 73, 74, 75, 76, 77, 78, 79, 80, 81, 82, 83, 84, 85, 86, 87, 88, 89, 90, 91, 92, 93, 94, 95, 96, 97, 98, 99, 100, 101, 102, 103, 104, 105, 106, 126, 127, 128, 129, 130, 111, 112, 113, 114, 115, 116, 117, 118, 119, 120, 121, 122, 123, 124, 125, 131, 132, 133, 134, 135, 136, 137, 138, 139, 140] (by decide +kernel) (by decide +kernel)
set_option maxRecDepth 20000 in
theorem gX2_fees_X2_drawBooks : GoodIn wsX2_fees (wsV RX2 125 RX2 yX2_drawBooks wsX2_drawBooks) := goodIn_app (goodIn_of _ (by decide +kernel)) ggX2_fees_X2_drawBooks
set_option maxRecDepth 20000 in
theorem ggX2_fees_X2_pictureOf : GoodIn wsX2_fees wsX2_pictureOf := goodIn_r _ [110, 12, 13, 126, 127, 128, 129, 130] (by decide +kernel) (by decide +kernel)
set_option maxRecDepth 20000 in
theorem gX2_fees_X2_pictureOf : GoodIn wsX2_fees (wsV RX2 42 RX2 yX2_pictureOf wsX2_pictureOf) := goodIn_app (goodIn_of _ (by decide +kernel)) ggX2_fees_X2_pictureOf
theorem dX2_fees_0 : decode cX2_fees 0 = .ok (.iload_n 1, 1) := by decide +kernel
theorem dX2_fees_1 : decode cX2_fees 1 = .ok (.invokestatic 34, 3) := by decide +kernel
theorem dX2_fees_4 : decode cX2_fees 4 = .ok (.aload_n 0, 1) := by decide +kernel
theorem dX2_fees_5 : decode cX2_fees 5 = .ok (.invokevirtual 125, 3) := by decide +kernel
theorem dX2_fees_8 : decode cX2_fees 8 = .ok (.aload_n 0, 1) := by decide +kernel
theorem dX2_fees_9 : decode cX2_fees 9 = .ok (.iload_n 1, 1) := by decide +kernel
theorem dX2_fees_10 : decode cX2_fees 10 = .ok (.invokevirtual 42, 3) := by decide +kernel
theorem dX2_fees_13 : decode cX2_fees 13 = .ok (.getfield 134, 3) := by decide +kernel
theorem dX2_fees_16 : decode cX2_fees 16 = .ok (.l2i, 1) := by decide +kernel
theorem dX2_fees_17 : decode cX2_fees 17 = .ok (.ireturn, 1) := by decide +kernel
set_option maxRecDepth 20000 in
theorem ggX2_balance_X2_requirePicture : GoodIn wsX2_balance wsX2_requirePicture := goodIn_ca (goodIn_r _ [6, 7, 8] (by decide +kernel) (by decide +kernel)) (goodIn_sub (fun _ h => List.mem_cons_of_mem _ (List.mem_append_left _ (List.mem_append_right _ h))) (by decide +kernel))
set_option maxRecDepth 20000 in
theorem gX2_balance_X2_requirePicture : GoodIn wsX2_balance (va_wsS RX2 34 yX2_requirePicture wsX2_requirePicture) := goodIn_app (goodIn_of _ (by decide +kernel)) ggX2_balance_X2_requirePicture
set_option maxRecDepth 20000 in
theorem ggX2_balance_X2_requireRange : GoodIn wsX2_balance wsX2_requireRange := goodIn_ca (goodIn_r _ [11, 12, 13] (by decide +kernel) (by decide +kernel)) (goodIn_sub (fun _ h => List.mem_cons_of_mem _ (List.mem_append_right _ h)) (by decide +kernel))
set_option maxRecDepth 20000 in
theorem gX2_balance_X2_requireRange : GoodIn wsX2_balance (va_wsS RX2 38 yX2_requireRange wsX2_requireRange) := goodIn_app (goodIn_of _ (by decide +kernel)) ggX2_balance_X2_requireRange
set_option maxRecDepth 20000 in
theorem ggX2_balance_X2_drawBooks : GoodIn wsX2_balance wsX2_drawBooks := goodIn_r _ [17, 18, 19, 1, 20, 21, 22, 23, 24, 25, 26, 27, 28, 29, 30, 31, 32, 33, 34, 35, 36, 37, 38, 39, 40, 41, 42, 43, 44, 5, 45, 46, 47, 48, 49, 50, 51, 52, 53, 54, 55, 56, 57, 58, 59, 60, 61, 62, 63, 64, 65, 66, 67, 68, 69, 70, 71, 72, 73, 74, 75, 76, 77, 78, 79, 80, 81, 82, 83, 84, 85, 86, 87, 88, 89, 90, 91, 92, 93, 94, 95, 96, 97, 98, 99, 100, 101, 102, 103, 104, 105, 106, 107, 108, 109, 110, 111, 116, 117, 118, 119, 120, 121, 122, 123, 124, 125, 126, 127, 128, 129, 130, 131, 132, 133, 134, 135, 136, 137, 138, 139, 140, 141, 142, 143, 144, 145] (by decide +kernel) (by decide +kernel)
set_option maxRecDepth 20000 in
theorem gX2_balance_X2_drawBooks : GoodIn wsX2_balance (wsV RX2 125 RX2 yX2_drawBooks wsX2_drawBooks) := goodIn_app (goodIn_of _ (by decide +kernel)) ggX2_balance_X2_drawBooks
set_option maxRecDepth 20000 in
theorem ggX2_balance_X2_pictureOf : GoodIn wsX2_balance wsX2_pictureOf := goodIn_r _ [115, 18, 19, 116, 117, 118, 119, 120] (by decide +kernel) (by decide +kernel)
set_option maxRecDepth 20000 in
theorem gX2_balance_X2_pictureOf : GoodIn wsX2_balance (wsV RX2 42 RX2 yX2_pictureOf wsX2_pictureOf) := goodIn_app (goodIn_of _ (by decide +kernel)) ggX2_balance_X2_pictureOf
theorem dX2_balance_0 : decode cX2_balance 0 = .ok (.iload_n 1, 1) := by decide +kernel
theorem dX2_balance_1 : decode cX2_balance 1 = .ok (.invokestatic 34, 3) := by decide +kernel
theorem dX2_balance_4 : decode cX2_balance 4 = .ok (.iload_n 2, 1) := by decide +kernel
theorem dX2_balance_5 : decode cX2_balance 5 = .ok (.iconst 0, 1) := by decide +kernel
theorem dX2_balance_6 : decode cX2_balance 6 = .ok (.aload_n 0, 1) := by decide +kernel
theorem dX2_balance_7 : decode cX2_balance 7 = .ok (.getfield 30, 3) := by decide +kernel
theorem dX2_balance_10 : decode cX2_balance 10 = .ok (.invokestatic 38, 3) := by decide +kernel
theorem dX2_balance_13 : decode cX2_balance 13 = .ok (.aload_n 0, 1) := by decide +kernel
theorem dX2_balance_14 : decode cX2_balance 14 = .ok (.invokevirtual 125, 3) := by decide +kernel
theorem dX2_balance_17 : decode cX2_balance 17 = .ok (.aload_n 0, 1) := by decide +kernel
theorem dX2_balance_18 : decode cX2_balance 18 = .ok (.iload_n 1, 1) := by decide +kernel
theorem dX2_balance_19 : decode cX2_balance 19 = .ok (.invokevirtual 42, 3) := by decide +kernel
theorem dX2_balance_22 : decode cX2_balance 22 = .ok (.getfield 137, 3) := by decide +kernel
theorem dX2_balance_25 : decode cX2_balance 25 = .ok (.iload_n 2, 1) := by decide +kernel
theorem dX2_balance_26 : decode cX2_balance 26 = .ok (.laload, 1) := by decide +kernel
theorem dX2_balance_27 : decode cX2_balance 27 = .ok (.l2i, 1) := by decide +kernel
theorem dX2_balance_28 : decode cX2_balance 28 = .ok (.ireturn, 1) := by decide +kernel
set_option maxRecDepth 20000 in
theorem ggX2_profit_X2_requirePicture : GoodIn wsX2_profit wsX2_requirePicture := goodIn_ca (goodIn_r _ [6, 7, 8] (by decide +kernel) (by decide +kernel)) (goodIn_sub (fun _ h => List.mem_cons_of_mem _ (List.mem_append_left _ (List.mem_append_right _ h))) (by decide +kernel))
set_option maxRecDepth 20000 in
theorem gX2_profit_X2_requirePicture : GoodIn wsX2_profit (va_wsS RX2 34 yX2_requirePicture wsX2_requirePicture) := goodIn_app (goodIn_of _ (by decide +kernel)) ggX2_profit_X2_requirePicture
set_option maxRecDepth 20000 in
theorem ggX2_profit_X2_requireRange : GoodIn wsX2_profit wsX2_requireRange := goodIn_ca (goodIn_r _ [11, 12, 13] (by decide +kernel) (by decide +kernel)) (goodIn_sub (fun _ h => List.mem_cons_of_mem _ (List.mem_append_right _ h)) (by decide +kernel))
set_option maxRecDepth 20000 in
theorem gX2_profit_X2_requireRange : GoodIn wsX2_profit (va_wsS RX2 38 yX2_requireRange wsX2_requireRange) := goodIn_app (goodIn_of _ (by decide +kernel)) ggX2_profit_X2_requireRange
set_option maxRecDepth 20000 in
theorem ggX2_profit_X2_drawBooks : GoodIn wsX2_profit wsX2_drawBooks := goodIn_r _ [17, 18, 19, 1, 20, 21, 22, 23, 24, 25, 26, 27, 28, 29, 30, 31, 32, 33, 34, 35, 36, 37, 38, 39, 40, 41, 42, 43, 44, 5, 45, 46, 47, 48, 49, 50, 51, 52, 53, 54, 55, 56, 57, 58, 59, 60, 61, 62, 63, 64, 65, 66, 67, 68, 69, 70, 71, 72, 73, 74, 75, 76, 77, 78, 79, 80, 81, 82, 83, 84, 85, 86, 87, 88, 89, 90, 91, 92, 93, 94, 95, 96, 97, 98, 99, 100, 101, 102, 103, 104, 105, 106, 107, 108, 109, 110, 111, 116, 117, 118, 119, 120, 121, 122, 123, 124, 125, 126, 127, 128, 129, 130, 131, 132, 133, 134, 135, 136, 137, 138, 139, 140, 141, 142, 143, 144, 145] (by decide +kernel) (by decide +kernel)
set_option maxRecDepth 20000 in
theorem gX2_profit_X2_drawBooks : GoodIn wsX2_profit (wsV RX2 125 RX2 yX2_drawBooks wsX2_drawBooks) := goodIn_app (goodIn_of _ (by decide +kernel)) ggX2_profit_X2_drawBooks
set_option maxRecDepth 20000 in
theorem ggX2_profit_X2_pictureOf : GoodIn wsX2_profit wsX2_pictureOf := goodIn_r _ [115, 18, 19, 116, 117, 118, 119, 120] (by decide +kernel) (by decide +kernel)
set_option maxRecDepth 20000 in
theorem gX2_profit_X2_pictureOf : GoodIn wsX2_profit (wsV RX2 42 RX2 yX2_pictureOf wsX2_pictureOf) := goodIn_app (goodIn_of _ (by decide +kernel)) ggX2_profit_X2_pictureOf
theorem dX2_profit_0 : decode cX2_profit 0 = .ok (.iload_n 1, 1) := by decide +kernel
theorem dX2_profit_1 : decode cX2_profit 1 = .ok (.invokestatic 34, 3) := by decide +kernel
theorem dX2_profit_4 : decode cX2_profit 4 = .ok (.iload_n 2, 1) := by decide +kernel
theorem dX2_profit_5 : decode cX2_profit 5 = .ok (.iconst 0, 1) := by decide +kernel
theorem dX2_profit_6 : decode cX2_profit 6 = .ok (.aload_n 0, 1) := by decide +kernel
theorem dX2_profit_7 : decode cX2_profit 7 = .ok (.getfield 30, 3) := by decide +kernel
theorem dX2_profit_10 : decode cX2_profit 10 = .ok (.invokestatic 38, 3) := by decide +kernel
theorem dX2_profit_13 : decode cX2_profit 13 = .ok (.aload_n 0, 1) := by decide +kernel
theorem dX2_profit_14 : decode cX2_profit 14 = .ok (.invokevirtual 125, 3) := by decide +kernel
theorem dX2_profit_17 : decode cX2_profit 17 = .ok (.aload_n 0, 1) := by decide +kernel
theorem dX2_profit_18 : decode cX2_profit 18 = .ok (.iload_n 1, 1) := by decide +kernel
theorem dX2_profit_19 : decode cX2_profit 19 = .ok (.invokevirtual 42, 3) := by decide +kernel
theorem dX2_profit_22 : decode cX2_profit 22 = .ok (.getfield 141, 3) := by decide +kernel
theorem dX2_profit_25 : decode cX2_profit 25 = .ok (.iload_n 2, 1) := by decide +kernel
theorem dX2_profit_26 : decode cX2_profit 26 = .ok (.laload, 1) := by decide +kernel
theorem dX2_profit_27 : decode cX2_profit 27 = .ok (.l2i, 1) := by decide +kernel
theorem dX2_profit_28 : decode cX2_profit 28 = .ok (.ireturn, 1) := by decide +kernel
set_option maxRecDepth 20000 in
theorem ggX2_pool_X2_requirePicture : GoodIn wsX2_pool wsX2_requirePicture := goodIn_ca (goodIn_r _ [4, 5, 6] (by decide +kernel) (by decide +kernel)) (goodIn_sub (fun _ h => List.mem_cons_of_mem _ (List.mem_append_right _ h)) (by decide +kernel))
set_option maxRecDepth 20000 in
theorem gX2_pool_X2_requirePicture : GoodIn wsX2_pool (va_wsS RX2 34 yX2_requirePicture wsX2_requirePicture) := goodIn_app (goodIn_of _ (by decide +kernel)) ggX2_pool_X2_requirePicture
set_option maxRecDepth 20000 in
theorem ggX2_pool_X2_drawBooks : GoodIn wsX2_pool wsX2_drawBooks := goodIn_r _ [10, 11, 12, 13, 14, 15, 16, 17, 18, 19, 20, 21, 22, 23, 24, 25, 26, 27, 28, 29, 30, 31, 32, 33, 34, 35, 36, 37, 38, 3, 39, 40, 41, 42, 43, 44, 45, 46, 47, 48, 49, 50, 51, 52, 53, 54, 55, 56, 57, 58, 59, 60, 61, 62, 63, 64, 65, 66, 67, 68, 69, 70, 71, 72, 73, 74, 75, 76, 77, 78, 79, 80, 81, 82, 83, 84, 85, 86, 87, 88, 89, 90, 91, 92, 93, 94, 95, 96, 97, 98, 99, 100, 101, 102, 103, 104, 105, 119, 120, 121, 122, 123, 124, 125, 126, 127, 128, 129, 130, 131, 132, 133, 134, 135, 136, 137, 138, 139, 140, 141, 142, 143, 144, 145, 146, 147, 148] (by decide +kernel) (by decide +kernel)
set_option maxRecDepth 20000 in
theorem gX2_pool_X2_drawBooks : GoodIn wsX2_pool (wsV RX2 125 RX2 yX2_drawBooks wsX2_drawBooks) := goodIn_app (goodIn_of _ (by decide +kernel)) ggX2_pool_X2_drawBooks
set_option maxRecDepth 20000 in
theorem ggX2_pool_X2_pictureOf : GoodIn wsX2_pool wsX2_pictureOf := goodIn_r _ [109, 11, 12, 119, 120, 121, 122, 123] (by decide +kernel) (by decide +kernel)
set_option maxRecDepth 20000 in
theorem gX2_pool_X2_pictureOf : GoodIn wsX2_pool (wsV RX2 42 RX2 yX2_pictureOf wsX2_pictureOf) := goodIn_app (goodIn_of _ (by decide +kernel)) ggX2_pool_X2_pictureOf
set_option maxRecDepth 20000 in
theorem ggX2_pool_X0_poolDrawn : GoodIn wsX2_pool wsX0_poolDrawn := goodIn_r _ [113, 50, 53, 54, 55, 56, 57, 58, 114, 115, 116, 18, 117, 25, 51, 52, 118, 98, 83, 84, 85, 59, 60, 61, 62, 63, 64, 65, 66, 67, 68, 69, 70, 71, 72, 73, 74, 75, 124, 125, 126, 127, 128, 129, 130, 131, 132, 133, 134, 135, 136, 137, 138, 146, 147, 148, 139, 140, 141, 142, 143, 144, 145] (by decide +kernel) (by decide +kernel)
set_option maxRecDepth 20000 in
theorem gX2_pool_X0_poolDrawn : GoodIn wsX2_pool (wsV RX2 144 RX0 yX0_poolDrawn wsX0_poolDrawn) := goodIn_app (goodIn_of _ (by decide +kernel)) ggX2_pool_X0_poolDrawn
theorem dX2_pool_0 : decode cX2_pool 0 = .ok (.iload_n 1, 1) := by decide +kernel
theorem dX2_pool_1 : decode cX2_pool 1 = .ok (.invokestatic 34, 3) := by decide +kernel
theorem dX2_pool_4 : decode cX2_pool 4 = .ok (.aload_n 0, 1) := by decide +kernel
theorem dX2_pool_5 : decode cX2_pool 5 = .ok (.invokevirtual 125, 3) := by decide +kernel
theorem dX2_pool_8 : decode cX2_pool 8 = .ok (.aload_n 0, 1) := by decide +kernel
theorem dX2_pool_9 : decode cX2_pool 9 = .ok (.iload_n 1, 1) := by decide +kernel
theorem dX2_pool_10 : decode cX2_pool 10 = .ok (.invokevirtual 42, 3) := by decide +kernel
theorem dX2_pool_13 : decode cX2_pool 13 = .ok (.invokevirtual 144, 3) := by decide +kernel
theorem dX2_pool_16 : decode cX2_pool 16 = .ok (.l2i, 1) := by decide +kernel
theorem dX2_pool_17 : decode cX2_pool 17 = .ok (.ireturn, 1) := by decide +kernel
set_option maxRecDepth 20000 in
theorem ggX2_sharers_Jx4a65c_size_8abf5 : GoodIn wsX2_sharers wsJx4a65c_size_8abf5 := goodIn_r _ [6, 7, 13, 14, 15] (by decide +kernel) (by decide +kernel)
set_option maxRecDepth 20000 in
theorem gX2_sharers_Jx4a65c_size_8abf5 : GoodIn wsX2_sharers (wsV RX2 78 RJx4a65c yJx4a65c_size_8abf5 wsJx4a65c_size_8abf5) := goodIn_app (goodIn_of _ (by decide +kernel)) ggX2_sharers_Jx4a65c_size_8abf5
theorem dX2_sharers_0 : decode cX2_sharers 0 = .ok (.aload_n 0, 1) := by decide +kernel
theorem dX2_sharers_1 : decode cX2_sharers 1 = .ok (.getfield 22, 3) := by decide +kernel
theorem dX2_sharers_4 : decode cX2_sharers 4 = .ok (.invokevirtual 78, 3) := by decide +kernel
theorem dX2_sharers_7 : decode cX2_sharers 7 = .ok (.ireturn, 1) := by decide +kernel
set_option maxRecDepth 20000 in
theorem ggX2_sum_X2_requireSharer : GoodIn wsX2_sum wsX2_requireSharer := goodIn_ca (goodIn_r _ [7, 8, 9, 1, 10, 11, 12, 13, 14, 15, 130, 131, 132, 133, 134, 135, 136, 137] (by decide +kernel) (by decide +kernel)) (goodIn_sub (fun _ h => List.mem_cons_of_mem _ (List.mem_append_right _ h)) (by decide +kernel))
set_option maxRecDepth 20000 in
theorem gX2_sum_X2_requireSharer : GoodIn wsX2_sum (wsV RX2 108 RX2 yX2_requireSharer wsX2_requireSharer) := goodIn_app (goodIn_of _ (by decide +kernel)) ggX2_sum_X2_requireSharer
set_option maxRecDepth 20000 in
theorem ggX2_sum_Jx4a65c_get_915e3 : GoodIn wsX2_sum wsJx4a65c_get_915e3 := goodIn_r _ [19, 15, 20, 21, 22, 23, 24, 25, 26, 27, 28, 29, 30, 13, 31, 32, 135, 136, 137] (by decide +kernel) (by decide +kernel)
set_option maxRecDepth 20000 in
theorem gX2_sum_Jx4a65c_get_915e3 : GoodIn wsX2_sum (wsV RX2 111 RJx4a65c yJx4a65c_get_915e3 wsJx4a65c_get_915e3) := goodIn_app (goodIn_of _ (by decide +kernel)) ggX2_sum_Jx4a65c_get_915e3
set_option maxRecDepth 20000 in
theorem ggX2_sum_X2_drawnSum : GoodIn wsX2_sum wsX2_drawnSum := goodIn_r _ [36, 37, 38, 39, 40, 6, 41, 42, 43, 44, 45, 46, 47, 48, 49, 50, 51, 52, 53, 54, 55, 56, 57, 58, 59, 60, 61, 62, 63, 64, 65, 66, 67, 68, 69, 70, 71, 72, 73, 74, 75, 76, 77, 78, 79, 80, 81, 82, 83, 84, 11, 12, 13, 14, 15, 85, 17, 18, 19, 20, 21, 22, 23, 24, 25, 26, 27, 28, 29, 30, 31, 32, 86, 87, 88, 89, 90, 91, 92, 93, 94, 95, 96, 97, 98, 99, 100, 101, 102, 103, 104, 105, 106, 107, 108, 109, 110, 111, 112, 113, 114, 115, 116, 117, 118, 119, 120, 121, 122, 123, 124, 125, 126, 127, 128, 129, 138, 139, 140, 141, 142, 143, 144, 130, 131, 132, 133, 134, 145, 146, 147, 148, 149, 150, 151, 152, 153, 154, 155, 156, 157, 158, 159, 135, 136, 137] (by decide +kernel) (by decide +kernel)
set_option maxRecDepth 20000 in
theorem gX2_sum_X2_drawnSum : GoodIn wsX2_sum (wsV RX2 115 RX2 yX2_drawnSum wsX2_drawnSum) := goodIn_app (goodIn_of _ (by decide +kernel)) ggX2_sum_X2_drawnSum
theorem dX2_sum_0 : decode cX2_sum 0 = .ok (.aload_n 0, 1) := by decide +kernel
theorem dX2_sum_1 : decode cX2_sum 1 = .ok (.iload_n 1, 1) := by decide +kernel
theorem dX2_sum_2 : decode cX2_sum 2 = .ok (.invokevirtual 108, 3) := by decide +kernel
theorem dX2_sum_5 : decode cX2_sum 5 = .ok (.aload_n 0, 1) := by decide +kernel
theorem dX2_sum_6 : decode cX2_sum 6 = .ok (.aload_n 0, 1) := by decide +kernel
theorem dX2_sum_7 : decode cX2_sum 7 = .ok (.getfield 22, 3) := by decide +kernel
theorem dX2_sum_10 : decode cX2_sum 10 = .ok (.iload_n 1, 1) := by decide +kernel
theorem dX2_sum_11 : decode cX2_sum 11 = .ok (.invokevirtual 111, 3) := by decide +kernel
theorem dX2_sum_14 : decode cX2_sum 14 = .ok (.checkcast 73, 3) := by decide +kernel
theorem dX2_sum_17 : decode cX2_sum 17 = .ok (.invokevirtual 115, 3) := by decide +kernel
theorem dX2_sum_20 : decode cX2_sum 20 = .ok (.l2i, 1) := by decide +kernel
theorem dX2_sum_21 : decode cX2_sum 21 = .ok (.ireturn, 1) := by decide +kernel
set_option maxRecDepth 20000 in
theorem ggX2_paid_X2_requireSharer : GoodIn wsX2_paid wsX2_requireSharer := goodIn_ca (goodIn_r _ [8, 9, 10, 1, 11, 12, 13, 14, 15, 16, 34, 35, 36, 37, 38, 46, 47, 48] (by decide +kernel) (by decide +kernel)) (goodIn_sub (fun _ h => List.mem_cons_of_mem _ (List.mem_append_right _ h)) (by decide +kernel))
set_option maxRecDepth 20000 in
theorem gX2_paid_X2_requireSharer : GoodIn wsX2_paid (wsV RX2 108 RX2 yX2_requireSharer wsX2_requireSharer) := goodIn_app (goodIn_of _ (by decide +kernel)) ggX2_paid_X2_requireSharer
set_option maxRecDepth 20000 in
theorem ggX2_paid_Jx4a65c_get_915e3 : GoodIn wsX2_paid wsJx4a65c_get_915e3 := goodIn_r _ [20, 16, 21, 22, 23, 24, 25, 26, 27, 28, 29, 30, 31, 14, 32, 33, 46, 47, 48] (by decide +kernel) (by decide +kernel)
set_option maxRecDepth 20000 in
theorem gX2_paid_Jx4a65c_get_915e3 : GoodIn wsX2_paid (wsV RX2 111 RJx4a65c yJx4a65c_get_915e3 wsJx4a65c_get_915e3) := goodIn_app (goodIn_of _ (by decide +kernel)) ggX2_paid_Jx4a65c_get_915e3
theorem dX2_paid_0 : decode cX2_paid 0 = .ok (.aload_n 0, 1) := by decide +kernel
theorem dX2_paid_1 : decode cX2_paid 1 = .ok (.iload_n 1, 1) := by decide +kernel
theorem dX2_paid_2 : decode cX2_paid 2 = .ok (.invokevirtual 108, 3) := by decide +kernel
theorem dX2_paid_5 : decode cX2_paid 5 = .ok (.aload_n 0, 1) := by decide +kernel
theorem dX2_paid_6 : decode cX2_paid 6 = .ok (.getfield 22, 3) := by decide +kernel
theorem dX2_paid_9 : decode cX2_paid 9 = .ok (.iload_n 1, 1) := by decide +kernel
theorem dX2_paid_10 : decode cX2_paid 10 = .ok (.invokevirtual 111, 3) := by decide +kernel
theorem dX2_paid_13 : decode cX2_paid 13 = .ok (.checkcast 73, 3) := by decide +kernel
theorem dX2_paid_16 : decode cX2_paid 16 = .ok (.getfield 119, 3) := by decide +kernel
theorem dX2_paid_19 : decode cX2_paid 19 = .ok (.l2i, 1) := by decide +kernel
theorem dX2_paid_20 : decode cX2_paid 20 = .ok (.ireturn, 1) := by decide +kernel
set_option maxRecDepth 20000 in
theorem ggX2_owed_X2_requireSharer : GoodIn wsX2_owed wsX2_requireSharer := goodIn_ca (goodIn_r _ [8, 9, 10, 1, 11, 12, 13, 14, 15, 16, 131, 132, 133, 134, 135, 143, 144, 145] (by decide +kernel) (by decide +kernel)) (goodIn_sub (fun _ h => List.mem_cons_of_mem _ (List.mem_append_right _ h)) (by decide +kernel))
set_option maxRecDepth 20000 in
theorem gX2_owed_X2_requireSharer : GoodIn wsX2_owed (wsV RX2 108 RX2 yX2_requireSharer wsX2_requireSharer) := goodIn_app (goodIn_of _ (by decide +kernel)) ggX2_owed_X2_requireSharer
set_option maxRecDepth 20000 in
theorem ggX2_owed_Jx4a65c_get_915e3 : GoodIn wsX2_owed wsJx4a65c_get_915e3 := goodIn_r _ [20, 16, 21, 22, 23, 24, 25, 26, 27, 28, 29, 30, 31, 14, 32, 33, 143, 144, 145] (by decide +kernel) (by decide +kernel)
set_option maxRecDepth 20000 in
theorem gX2_owed_Jx4a65c_get_915e3 : GoodIn wsX2_owed (wsV RX2 111 RJx4a65c yJx4a65c_get_915e3 wsJx4a65c_get_915e3) := goodIn_app (goodIn_of _ (by decide +kernel)) ggX2_owed_Jx4a65c_get_915e3
set_option maxRecDepth 20000 in
theorem ggX2_owed_X2_drawnSum : GoodIn wsX2_owed wsX2_drawnSum := goodIn_r _ [37, 38, 39, 40, 41, 7, 42, 43, 44, 45, 46, 47, 48, 49, 50, 51, 52, 53, 54, 55, 56, 57, 58, 59, 60, 61, 62, 63, 64, 65, 66, 67, 68, 69, 70, 71, 72, 73, 74, 75, 76, 77, 78, 79, 80, 81, 82, 83, 84, 85, 12, 13, 14, 15, 16, 86, 18, 19, 20, 21, 22, 23, 24, 25, 26, 27, 28, 29, 30, 31, 32, 33, 87, 88, 89, 90, 91, 92, 93, 94, 95, 96, 97, 98, 99, 100, 101, 102, 103, 104, 105, 106, 107, 108, 109, 110, 111, 112, 113, 114, 115, 116, 117, 118, 119, 120, 121, 122, 123, 124, 125, 126, 127, 128, 129, 130, 136, 137, 138, 139, 140, 141, 142, 131, 132, 133, 134, 135, 146, 147, 148, 149, 150, 151, 152, 153, 154, 155, 156, 157, 158, 159, 160, 143, 144, 145] (by decide +kernel) (by decide +kernel)
set_option maxRecDepth 20000 in
theorem gX2_owed_X2_drawnSum : GoodIn wsX2_owed (wsV RX2 115 RX2 yX2_drawnSum wsX2_drawnSum) := goodIn_app (goodIn_of _ (by decide +kernel)) ggX2_owed_X2_drawnSum
theorem dX2_owed_0 : decode cX2_owed 0 = .ok (.aload_n 0, 1) := by decide +kernel
theorem dX2_owed_1 : decode cX2_owed 1 = .ok (.iload_n 1, 1) := by decide +kernel
theorem dX2_owed_2 : decode cX2_owed 2 = .ok (.invokevirtual 108, 3) := by decide +kernel
theorem dX2_owed_5 : decode cX2_owed 5 = .ok (.aload_n 0, 1) := by decide +kernel
theorem dX2_owed_6 : decode cX2_owed 6 = .ok (.getfield 22, 3) := by decide +kernel
theorem dX2_owed_9 : decode cX2_owed 9 = .ok (.iload_n 1, 1) := by decide +kernel
theorem dX2_owed_10 : decode cX2_owed 10 = .ok (.invokevirtual 111, 3) := by decide +kernel
theorem dX2_owed_13 : decode cX2_owed 13 = .ok (.checkcast 73, 3) := by decide +kernel
theorem dX2_owed_16 : decode cX2_owed 16 = .ok (.astore_n 2, 1) := by decide +kernel
theorem dX2_owed_17 : decode cX2_owed 17 = .ok (.aload_n 0, 1) := by decide +kernel
theorem dX2_owed_18 : decode cX2_owed 18 = .ok (.aload_n 2, 1) := by decide +kernel
theorem dX2_owed_19 : decode cX2_owed 19 = .ok (.invokevirtual 115, 3) := by decide +kernel
theorem dX2_owed_22 : decode cX2_owed 22 = .ok (.aload_n 2, 1) := by decide +kernel
theorem dX2_owed_23 : decode cX2_owed 23 = .ok (.getfield 119, 3) := by decide +kernel
theorem dX2_owed_26 : decode cX2_owed 26 = .ok (.lsub, 1) := by decide +kernel
theorem dX2_owed_27 : decode cX2_owed 27 = .ok (.l2i, 1) := by decide +kernel
theorem dX2_owed_28 : decode cX2_owed 28 = .ok (.ireturn, 1) := by decide +kernel
theorem dX2_requirePicture_0 : decode cX2_requirePicture 0 = .ok (.iload_n 0, 1) := by decide +kernel
theorem dX2_requirePicture_1 : decode cX2_requirePicture 1 = .ok (.ifCond .lt 8, 3) := by decide +kernel
theorem dX2_requirePicture_4 : decode cX2_requirePicture 4 = .ok (.iload_n 0, 1) := by decide +kernel
theorem dX2_requirePicture_5 : decode cX2_requirePicture 5 = .ok (.iconst 2, 1) := by decide +kernel
theorem dX2_requirePicture_6 : decode cX2_requirePicture 6 = .ok (.if_icmp .lt 13, 3) := by decide +kernel
theorem dX2_requirePicture_9 : decode cX2_requirePicture 9 = .ok (.new 148, 3) := by decide +kernel
theorem dX2_requirePicture_12 : decode cX2_requirePicture 12 = .ok (.dup, 1) := by decide +kernel
theorem dX2_requirePicture_13 : decode cX2_requirePicture 13 = .ok (.ldc 150, 2) := by decide +kernel
theorem dX2_requirePicture_15 : decode cX2_requirePicture 15 = .ok (.invokespecial 152, 3) := by decide +kernel
theorem dX2_requirePicture_18 : decode cX2_requirePicture 18 = .ok (.athrow, 1) := by decide +kernel
theorem dX2_requirePicture_19 : decode cX2_requirePicture 19 = .ok (.return_, 1) := by decide +kernel
theorem dX2_requireWindow_0 : decode cX2_requireWindow 0 = .ok (.iload_n 0, 1) := by decide +kernel
theorem dX2_requireWindow_1 : decode cX2_requireWindow 1 = .ok (.ifCond .lt 8, 3) := by decide +kernel
theorem dX2_requireWindow_4 : decode cX2_requireWindow 4 = .ok (.iload_n 0, 1) := by decide +kernel
theorem dX2_requireWindow_5 : decode cX2_requireWindow 5 = .ok (.iconst 4, 1) := by decide +kernel
theorem dX2_requireWindow_6 : decode cX2_requireWindow 6 = .ok (.if_icmp .lt 13, 3) := by decide +kernel
theorem dX2_requireWindow_9 : decode cX2_requireWindow 9 = .ok (.new 148, 3) := by decide +kernel
theorem dX2_requireWindow_12 : decode cX2_requireWindow 12 = .ok (.dup, 1) := by decide +kernel
theorem dX2_requireWindow_13 : decode cX2_requireWindow 13 = .ok (.ldc 153, 2) := by decide +kernel
theorem dX2_requireWindow_15 : decode cX2_requireWindow 15 = .ok (.invokespecial 152, 3) := by decide +kernel
theorem dX2_requireWindow_18 : decode cX2_requireWindow 18 = .ok (.athrow, 1) := by decide +kernel
theorem dX2_requireWindow_19 : decode cX2_requireWindow 19 = .ok (.return_, 1) := by decide +kernel
theorem dX2_requireRange_0 : decode cX2_requireRange 0 = .ok (.iload_n 0, 1) := by decide +kernel
theorem dX2_requireRange_1 : decode cX2_requireRange 1 = .ok (.iload_n 1, 1) := by decide +kernel
theorem dX2_requireRange_2 : decode cX2_requireRange 2 = .ok (.if_icmp .lt 8, 3) := by decide +kernel
theorem dX2_requireRange_5 : decode cX2_requireRange 5 = .ok (.iload_n 0, 1) := by decide +kernel
theorem dX2_requireRange_6 : decode cX2_requireRange 6 = .ok (.iload_n 2, 1) := by decide +kernel
theorem dX2_requireRange_7 : decode cX2_requireRange 7 = .ok (.if_icmp .le 13, 3) := by decide +kernel
theorem dX2_requireRange_10 : decode cX2_requireRange 10 = .ok (.new 155, 3) := by decide +kernel
theorem dX2_requireRange_13 : decode cX2_requireRange 13 = .ok (.dup, 1) := by decide +kernel
theorem dX2_requireRange_14 : decode cX2_requireRange 14 = .ok (.ldc 157, 2) := by decide +kernel
theorem dX2_requireRange_16 : decode cX2_requireRange 16 = .ok (.invokespecial 159, 3) := by decide +kernel
theorem dX2_requireRange_19 : decode cX2_requireRange 19 = .ok (.athrow, 1) := by decide +kernel
theorem dX2_requireRange_20 : decode cX2_requireRange 20 = .ok (.return_, 1) := by decide +kernel
set_option maxRecDepth 20000 in
theorem ggX2_requireSharer_Jx4a65c_size_8abf5 : GoodIn wsX2_requireSharer wsJx4a65c_size_8abf5 := goodIn_r _ [8, 9, 15, 16, 17] (by decide +kernel) (by decide +kernel)
set_option maxRecDepth 20000 in
theorem gX2_requireSharer_Jx4a65c_size_8abf5 : GoodIn wsX2_requireSharer (wsV RX2 78 RJx4a65c yJx4a65c_size_8abf5 wsJx4a65c_size_8abf5) := goodIn_app (goodIn_of _ (by decide +kernel)) ggX2_requireSharer_Jx4a65c_size_8abf5
theorem dX2_requireSharer_0 : decode cX2_requireSharer 0 = .ok (.iload_n 1, 1) := by decide +kernel
theorem dX2_requireSharer_1 : decode cX2_requireSharer 1 = .ok (.ifCond .lt 14, 3) := by decide +kernel
theorem dX2_requireSharer_4 : decode cX2_requireSharer 4 = .ok (.iload_n 1, 1) := by decide +kernel
theorem dX2_requireSharer_5 : decode cX2_requireSharer 5 = .ok (.aload_n 0, 1) := by decide +kernel
theorem dX2_requireSharer_6 : decode cX2_requireSharer 6 = .ok (.getfield 22, 3) := by decide +kernel
theorem dX2_requireSharer_9 : decode cX2_requireSharer 9 = .ok (.invokevirtual 78, 3) := by decide +kernel
theorem dX2_requireSharer_12 : decode cX2_requireSharer 12 = .ok (.if_icmp .lt 13, 3) := by decide +kernel
theorem dX2_requireSharer_15 : decode cX2_requireSharer 15 = .ok (.new 148, 3) := by decide +kernel
theorem dX2_requireSharer_18 : decode cX2_requireSharer 18 = .ok (.dup, 1) := by decide +kernel
theorem dX2_requireSharer_19 : decode cX2_requireSharer 19 = .ok (.ldc 160, 2) := by decide +kernel
theorem dX2_requireSharer_21 : decode cX2_requireSharer 21 = .ok (.invokespecial 152, 3) := by decide +kernel
theorem dX2_requireSharer_24 : decode cX2_requireSharer 24 = .ok (.athrow, 1) := by decide +kernel
theorem dX2_requireSharer_25 : decode cX2_requireSharer 25 = .ok (.return_, 1) := by decide +kernel
set_option maxRecDepth 20000 in
theorem ggX2_requireRoom_Jx4a65c_size_8abf5 : GoodIn wsX2_requireRoom wsJx4a65c_size_8abf5 := goodIn_r _ [8, 9, 47, 48, 49] (by decide +kernel) (by decide +kernel)
set_option maxRecDepth 20000 in
theorem gX2_requireRoom_Jx4a65c_size_8abf5 : GoodIn wsX2_requireRoom (wsV RX2 78 RJx4a65c yJx4a65c_size_8abf5 wsJx4a65c_size_8abf5) := goodIn_app (goodIn_of _ (by decide +kernel)) ggX2_requireRoom_Jx4a65c_size_8abf5
set_option maxRecDepth 20000 in
theorem ggX2_requireRoom_X0_netRatesGiven : GoodIn wsX2_requireRoom wsX0_netRatesGiven := goodIn_r _ [14, 15, 16, 17, 18, 19, 20, 21, 22, 23, 24, 5, 6, 7, 8, 9, 25, 26, 27, 28, 29, 30, 31, 32, 33, 34, 35, 36, 37, 38, 39, 40, 41, 50, 51, 52, 53, 54, 55, 56, 57, 58, 59, 60, 61, 62, 63, 64, 65, 66, 67, 68, 69, 70, 71, 47, 48, 49] (by decide +kernel) (by decide +kernel)
set_option maxRecDepth 20000 in
theorem gX2_requireRoom_X0_netRatesGiven : GoodIn wsX2_requireRoom (wsV RX2 164 RX0 yX0_netRatesGiven wsX0_netRatesGiven) := goodIn_app (goodIn_of _ (by decide +kernel)) ggX2_requireRoom_X0_netRatesGiven
theorem dX2_requireRoom_0 : decode cX2_requireRoom 0 = .ok (.aload_n 0, 1) := by decide +kernel
theorem dX2_requireRoom_1 : decode cX2_requireRoom 1 = .ok (.getfield 22, 3) := by decide +kernel
theorem dX2_requireRoom_4 : decode cX2_requireRoom 4 = .ok (.invokevirtual 78, 3) := by decide +kernel
theorem dX2_requireRoom_7 : decode cX2_requireRoom 7 = .ok (.bipush 8, 2) := by decide +kernel
theorem dX2_requireRoom_9 : decode cX2_requireRoom 9 = .ok (.if_icmp .lt 13, 3) := by decide +kernel
theorem dX2_requireRoom_12 : decode cX2_requireRoom 12 = .ok (.new 101, 3) := by decide +kernel
theorem dX2_requireRoom_15 : decode cX2_requireRoom 15 = .ok (.dup, 1) := by decide +kernel
theorem dX2_requireRoom_16 : decode cX2_requireRoom 16 = .ok (.ldc 162, 2) := by decide +kernel
theorem dX2_requireRoom_18 : decode cX2_requireRoom 18 = .ok (.invokespecial 105, 3) := by decide +kernel
theorem dX2_requireRoom_21 : decode cX2_requireRoom 21 = .ok (.athrow, 1) := by decide +kernel
theorem dX2_requireRoom_22 : decode cX2_requireRoom 22 = .ok (.iload_n 2, 1) := by decide +kernel
theorem dX2_requireRoom_23 : decode cX2_requireRoom 23 = .ok (.iconst 1, 1) := by decide +kernel
theorem dX2_requireRoom_24 : decode cX2_requireRoom 24 = .ok (.if_icmp .ne 25, 3) := by decide +kernel
theorem dX2_requireRoom_27 : decode cX2_requireRoom 27 = .ok (.aload_n 1, 1) := by decide +kernel
theorem dX2_requireRoom_28 : decode cX2_requireRoom 28 = .ok (.invokevirtual 164, 3) := by decide +kernel
theorem dX2_requireRoom_31 : decode cX2_requireRoom 31 = .ok (.iload_n 3, 1) := by decide +kernel
theorem dX2_requireRoom_32 : decode cX2_requireRoom 32 = .ok (.iadd, 1) := by decide +kernel
theorem dX2_requireRoom_33 : decode cX2_requireRoom 33 = .ok (.sipush 10000, 3) := by decide +kernel
theorem dX2_requireRoom_36 : decode cX2_requireRoom 36 = .ok (.if_icmp .le 13, 3) := by decide +kernel
theorem dX2_requireRoom_39 : decode cX2_requireRoom 39 = .ok (.new 101, 3) := by decide +kernel
theorem dX2_requireRoom_42 : decode cX2_requireRoom 42 = .ok (.dup, 1) := by decide +kernel
theorem dX2_requireRoom_43 : decode cX2_requireRoom 43 = .ok (.ldc 167, 2) := by decide +kernel
theorem dX2_requireRoom_45 : decode cX2_requireRoom 45 = .ok (.invokespecial 105, 3) := by decide +kernel
theorem dX2_requireRoom_48 : decode cX2_requireRoom 48 = .ok (.athrow, 1) := by decide +kernel
theorem dX2_requireRoom_49 : decode cX2_requireRoom 49 = .ok (.return_, 1) := by decide +kernel
theorem dX2_requireOpenToAudit_0 : decode cX2_requireOpenToAudit 0 = .ok (.iload_n 1, 1) := by decide +kernel
theorem dX2_requireOpenToAudit_1 : decode cX2_requireOpenToAudit 1 = .ok (.ifCond .lt 21, 3) := by decide +kernel
theorem dX2_requireOpenToAudit_4 : decode cX2_requireOpenToAudit 4 = .ok (.iload_n 1, 1) := by decide +kernel
theorem dX2_requireOpenToAudit_5 : decode cX2_requireOpenToAudit 5 = .ok (.aload_n 0, 1) := by decide +kernel
theorem dX2_requireOpenToAudit_6 : decode cX2_requireOpenToAudit 6 = .ok (.getfield 30, 3) := by decide +kernel
theorem dX2_requireOpenToAudit_9 : decode cX2_requireOpenToAudit 9 = .ok (.iconst 3, 1) := by decide +kernel
theorem dX2_requireOpenToAudit_10 : decode cX2_requireOpenToAudit 10 = .ok (.isub, 1) := by decide +kernel
theorem dX2_requireOpenToAudit_11 : decode cX2_requireOpenToAudit 11 = .ok (.if_icmp .lt 11, 3) := by decide +kernel
theorem dX2_requireOpenToAudit_14 : decode cX2_requireOpenToAudit 14 = .ok (.iload_n 1, 1) := by decide +kernel
theorem dX2_requireOpenToAudit_15 : decode cX2_requireOpenToAudit 15 = .ok (.aload_n 0, 1) := by decide +kernel
theorem dX2_requireOpenToAudit_16 : decode cX2_requireOpenToAudit 16 = .ok (.getfield 30, 3) := by decide +kernel
theorem dX2_requireOpenToAudit_19 : decode cX2_requireOpenToAudit 19 = .ok (.if_icmp .lt 13, 3) := by decide +kernel
theorem dX2_requireOpenToAudit_22 : decode cX2_requireOpenToAudit 22 = .ok (.new 101, 3) := by decide +kernel
theorem dX2_requireOpenToAudit_25 : decode cX2_requireOpenToAudit 25 = .ok (.dup, 1) := by decide +kernel
theorem dX2_requireOpenToAudit_26 : decode cX2_requireOpenToAudit 26 = .ok (.ldc 169, 2) := by decide +kernel
theorem dX2_requireOpenToAudit_28 : decode cX2_requireOpenToAudit 28 = .ok (.invokespecial 105, 3) := by decide +kernel
theorem dX2_requireOpenToAudit_31 : decode cX2_requireOpenToAudit 31 = .ok (.athrow, 1) := by decide +kernel
theorem dX2_requireOpenToAudit_32 : decode cX2_requireOpenToAudit 32 = .ok (.return_, 1) := by decide +kernel
theorem dX2_pictureOf_0 : decode cX2_pictureOf 0 = .ok (.iload_n 1, 1) := by decide +kernel
theorem dX2_pictureOf_1 : decode cX2_pictureOf 1 = .ok (.ifCond .ne 10, 3) := by decide +kernel
theorem dX2_pictureOf_4 : decode cX2_pictureOf 4 = .ok (.aload_n 0, 1) := by decide +kernel
theorem dX2_pictureOf_5 : decode cX2_pictureOf 5 = .ok (.getfield 10, 3) := by decide +kernel
theorem dX2_pictureOf_8 : decode cX2_pictureOf 8 = .ok (.goto 7, 3) := by decide +kernel
theorem dX2_pictureOf_11 : decode cX2_pictureOf 11 = .ok (.aload_n 0, 1) := by decide +kernel
theorem dX2_pictureOf_12 : decode cX2_pictureOf 12 = .ok (.getfield 16, 3) := by decide +kernel
theorem dX2_pictureOf_15 : decode cX2_pictureOf 15 = .ok (.areturn, 1) := by decide +kernel
set_option maxRecDepth 20000 in
theorem ggX2_drawnSum_X2_drawBooks : GoodIn wsX2_drawnSum wsX2_drawBooks := goodIn_r _ [6, 7, 8, 9, 10, 11, 12, 13, 14, 15, 16, 17, 18, 19, 20, 21, 22, 23, 24, 25, 26, 27, 28, 29, 30, 31, 32, 33, 34, 5, 35, 36, 37, 38, 39, 40, 41, 42, 43, 44, 45, 46, 47, 48, 49, 50, 51, 52, 53, 54, 55, 56, 57, 58, 59, 60, 61, 62, 63, 64, 65, 66, 67, 68, 69, 70, 71, 72, 73, 74, 75, 76, 77, 78, 79, 80, 81, 82, 83, 84, 85, 86, 87, 88, 89, 90, 91, 92, 93, 94, 95, 96, 97, 98, 99, 100, 101, 123, 124, 125, 126, 127, 128, 129, 130, 131, 132, 133, 134, 135, 136, 137, 138, 139, 140, 141, 142, 116, 117, 118, 119, 120, 121, 122, 143, 144, 145] (by decide +kernel) (by decide +kernel)
set_option maxRecDepth 20000 in
theorem gX2_drawnSum_X2_drawBooks : GoodIn wsX2_drawnSum (wsV RX2 125 RX2 yX2_drawBooks wsX2_drawBooks) := goodIn_app (goodIn_of _ (by decide +kernel)) ggX2_drawnSum_X2_drawBooks
set_option maxRecDepth 20000 in
theorem ggX2_drawnSum_X0_sumDrawn : GoodIn wsX2_drawnSum wsX0_sumDrawn := goodIn_r _ [105, 48, 17, 106, 107, 94, 79, 80, 81, 16, 72, 73, 74, 75, 76, 77, 78, 82, 83, 84, 108, 109, 110, 14, 111, 46, 49, 50, 51, 52, 53, 54, 112, 113, 114, 115, 21, 47, 55, 56, 57, 58, 59, 60, 61, 62, 63, 64, 65, 66, 67, 68, 69, 70, 71, 85, 86, 87, 88, 89, 116, 117, 118, 119, 120, 121, 122, 128, 129, 130, 131, 132, 133, 134, 135, 136, 137, 138, 139, 140, 141, 142, 143, 144, 145] (by decide +kernel) (by decide +kernel)
set_option maxRecDepth 20000 in
theorem gX2_drawnSum_X0_sumDrawn : GoodIn wsX2_drawnSum (wsV RX2 174 RX0 yX0_sumDrawn wsX0_sumDrawn) := goodIn_app (goodIn_of _ (by decide +kernel)) ggX2_drawnSum_X0_sumDrawn
theorem dX2_drawnSum_0 : decode cX2_drawnSum 0 = .ok (.aload_n 0, 1) := by decide +kernel
theorem dX2_drawnSum_1 : decode cX2_drawnSum 1 = .ok (.invokevirtual 125, 3) := by decide +kernel
theorem dX2_drawnSum_4 : decode cX2_drawnSum 4 = .ok (.aload_n 1, 1) := by decide +kernel
theorem dX2_drawnSum_5 : decode cX2_drawnSum 5 = .ok (.getfield 171, 3) := by decide +kernel
theorem dX2_drawnSum_8 : decode cX2_drawnSum 8 = .ok (.aload_n 1, 1) := by decide +kernel
theorem dX2_drawnSum_9 : decode cX2_drawnSum 9 = .ok (.invokevirtual 174, 3) := by decide +kernel
theorem dX2_drawnSum_12 : decode cX2_drawnSum 12 = .ok (.lreturn, 1) := by decide +kernel
set_option maxRecDepth 20000 in
theorem ggX2_drawBooks_X0_startBooks : GoodIn wsX2_drawBooks wsX0_startBooks := goodIn_r _ [9, 10, 11, 12, 13, 14, 15, 102, 103, 104, 105, 106, 107, 108, 109, 110, 111, 112, 113, 114, 115, 116] (by decide +kernel) (by decide +kernel)
set_option maxRecDepth 20000 in
theorem gX2_drawBooks_X0_startBooks : GoodIn wsX2_drawBooks (wsV RX2 177 RX0 yX0_startBooks wsX0_startBooks) := goodIn_app (goodIn_of _ (by decide +kernel)) ggX2_drawBooks_X0_startBooks
set_option maxRecDepth 20000 in
theorem ggX2_drawBooks_X0_recoup : GoodIn wsX2_drawBooks wsX0_recoup := goodIn_r _ [19, 20, 10, 11, 12, 14, 21, 22, 13, 15, 23, 24, 25, 8, 26, 27, 28, 29, 30, 31, 32, 33, 34, 35, 36, 37, 38, 39, 40, 41, 42, 43, 44, 45, 46, 47, 48, 49, 50, 51, 52, 53, 54, 55, 56, 57, 58, 59, 60, 61, 62, 63, 64, 65, 66, 67, 68, 69, 70, 71, 72, 73, 74, 75, 76, 77, 78, 79, 80, 81, 82, 83, 84, 102, 103, 104, 105, 106, 107, 108, 109, 110, 111, 112, 113, 114, 115, 116, 117, 118, 119, 120, 121, 122, 123, 124, 125, 126] (by decide +kernel) (by decide +kernel)
set_option maxRecDepth 20000 in
theorem gX2_drawBooks_X0_recoup : GoodIn wsX2_drawBooks (wsV RX2 180 RX0 yX0_recoup wsX0_recoup) := goodIn_app (goodIn_of _ (by decide +kernel)) ggX2_drawBooks_X0_recoup
set_option maxRecDepth 20000 in
theorem ggX2_drawBooks_X0_moveGain : GoodIn wsX2_drawBooks wsX0_moveGain := goodIn_r _ [88, 14, 89, 74, 75, 76, 15, 102, 103, 104, 105, 106, 107, 108, 109, 110, 111, 112, 113, 114, 115, 116] (by decide +kernel) (by decide +kernel)
set_option maxRecDepth 20000 in
theorem gX2_drawBooks_X0_moveGain : GoodIn wsX2_drawBooks (wsV RX2 184 RX0 yX0_moveGain wsX0_moveGain) := goodIn_app (goodIn_of _ (by decide +kernel)) ggX2_drawBooks_X0_moveGain
set_option maxRecDepth 20000 in
theorem ggX2_drawBooks_X0_finishYear : GoodIn wsX2_drawBooks wsX0_finishYear := goodIn_r _ [93, 14, 94, 95, 96, 15, 28, 29, 30, 31, 102, 103, 104, 105, 106, 107, 108, 109, 110, 111, 112, 113, 114, 115, 116] (by decide +kernel) (by decide +kernel)
set_option maxRecDepth 20000 in
theorem gX2_drawBooks_X0_finishYear : GoodIn wsX2_drawBooks (wsV RX2 188 RX0 yX0_finishYear wsX0_finishYear) := goodIn_app (goodIn_of _ (by decide +kernel)) ggX2_drawBooks_X0_finishYear
theorem dX2_drawBooks_0 : decode cX2_drawBooks 0 = .ok (.aload_n 0, 1) := by decide +kernel
theorem dX2_drawBooks_1 : decode cX2_drawBooks 1 = .ok (.getfield 10, 3) := by decide +kernel
theorem dX2_drawBooks_4 : decode cX2_drawBooks 4 = .ok (.invokevirtual 177, 3) := by decide +kernel
theorem dX2_drawBooks_7 : decode cX2_drawBooks 7 = .ok (.aload_n 0, 1) := by decide +kernel
theorem dX2_drawBooks_8 : decode cX2_drawBooks 8 = .ok (.getfield 16, 3) := by decide +kernel
theorem dX2_drawBooks_11 : decode cX2_drawBooks 11 = .ok (.invokevirtual 177, 3) := by decide +kernel
theorem dX2_drawBooks_14 : decode cX2_drawBooks 14 = .ok (.iconst 0, 1) := by decide +kernel
theorem dX2_drawBooks_15 : decode cX2_drawBooks 15 = .ok (.istore_n 1, 1) := by decide +kernel
theorem dX2_drawBooks_16 : decode cX2_drawBooks 16 = .ok (.iload_n 1, 1) := by decide +kernel
theorem dX2_drawBooks_17 : decode cX2_drawBooks 17 = .ok (.bipush 10, 2) := by decide +kernel
theorem dX2_drawBooks_19 : decode cX2_drawBooks 19 = .ok (.if_icmp .ge 84, 3) := by decide +kernel
theorem dX2_drawBooks_22 : decode cX2_drawBooks 22 = .ok (.iload_n 1, 1) := by decide +kernel
theorem dX2_drawBooks_23 : decode cX2_drawBooks 23 = .ok (.aload_n 0, 1) := by decide +kernel
theorem dX2_drawBooks_24 : decode cX2_drawBooks 24 = .ok (.getfield 30, 3) := by decide +kernel
theorem dX2_drawBooks_27 : decode cX2_drawBooks 27 = .ok (.if_icmp .gt 76, 3) := by decide +kernel
theorem dX2_drawBooks_30 : decode cX2_drawBooks 30 = .ok (.aload_n 0, 1) := by decide +kernel
theorem dX2_drawBooks_31 : decode cX2_drawBooks 31 = .ok (.getfield 10, 3) := by decide +kernel
theorem dX2_drawBooks_34 : decode cX2_drawBooks 34 = .ok (.iload_n 1, 1) := by decide +kernel
theorem dX2_drawBooks_35 : decode cX2_drawBooks 35 = .ok (.invokevirtual 180, 3) := by decide +kernel
theorem dX2_drawBooks_38 : decode cX2_drawBooks 38 = .ok (.lstore_n 2, 1) := by decide +kernel
theorem dX2_drawBooks_39 : decode cX2_drawBooks 39 = .ok (.aload_n 0, 1) := by decide +kernel
theorem dX2_drawBooks_40 : decode cX2_drawBooks 40 = .ok (.getfield 16, 3) := by decide +kernel
theorem dX2_drawBooks_43 : decode cX2_drawBooks 43 = .ok (.iload_n 1, 1) := by decide +kernel
theorem dX2_drawBooks_44 : decode cX2_drawBooks 44 = .ok (.invokevirtual 180, 3) := by decide +kernel
theorem dX2_drawBooks_47 : decode cX2_drawBooks 47 = .ok (.lstore 4, 2) := by decide +kernel
theorem dX2_drawBooks_49 : decode cX2_drawBooks 49 = .ok (.aload_n 0, 1) := by decide +kernel
theorem dX2_drawBooks_50 : decode cX2_drawBooks 50 = .ok (.getfield 26, 3) := by decide +kernel
theorem dX2_drawBooks_53 : decode cX2_drawBooks 53 = .ok (.ifCond .eq 28, 3) := by decide +kernel
theorem dX2_drawBooks_56 : decode cX2_drawBooks 56 = .ok (.aload_n 0, 1) := by decide +kernel
theorem dX2_drawBooks_57 : decode cX2_drawBooks 57 = .ok (.getfield 10, 3) := by decide +kernel
theorem dX2_drawBooks_60 : decode cX2_drawBooks 60 = .ok (.lload_n 2, 1) := by decide +kernel
theorem dX2_drawBooks_61 : decode cX2_drawBooks 61 = .ok (.aload_n 0, 1) := by decide +kernel
theorem dX2_drawBooks_62 : decode cX2_drawBooks 62 = .ok (.getfield 16, 3) := by decide +kernel
theorem dX2_drawBooks_65 : decode cX2_drawBooks 65 = .ok (.invokevirtual 184, 3) := by decide +kernel
theorem dX2_drawBooks_68 : decode cX2_drawBooks 68 = .ok (.aload_n 0, 1) := by decide +kernel
theorem dX2_drawBooks_69 : decode cX2_drawBooks 69 = .ok (.getfield 16, 3) := by decide +kernel
theorem dX2_drawBooks_72 : decode cX2_drawBooks 72 = .ok (.lload 4, 2) := by decide +kernel
theorem dX2_drawBooks_74 : decode cX2_drawBooks 74 = .ok (.aload_n 0, 1) := by decide +kernel
theorem dX2_drawBooks_75 : decode cX2_drawBooks 75 = .ok (.getfield 10, 3) := by decide +kernel
theorem dX2_drawBooks_78 : decode cX2_drawBooks 78 = .ok (.invokevirtual 184, 3) := by decide +kernel
theorem dX2_drawBooks_81 : decode cX2_drawBooks 81 = .ok (.aload_n 0, 1) := by decide +kernel
theorem dX2_drawBooks_82 : decode cX2_drawBooks 82 = .ok (.getfield 10, 3) := by decide +kernel
theorem dX2_drawBooks_85 : decode cX2_drawBooks 85 = .ok (.iload_n 1, 1) := by decide +kernel
theorem dX2_drawBooks_86 : decode cX2_drawBooks 86 = .ok (.invokevirtual 188, 3) := by decide +kernel
theorem dX2_drawBooks_89 : decode cX2_drawBooks 89 = .ok (.aload_n 0, 1) := by decide +kernel
theorem dX2_drawBooks_90 : decode cX2_drawBooks 90 = .ok (.getfield 16, 3) := by decide +kernel
theorem dX2_drawBooks_93 : decode cX2_drawBooks 93 = .ok (.iload_n 1, 1) := by decide +kernel
theorem dX2_drawBooks_94 : decode cX2_drawBooks 94 = .ok (.invokevirtual 188, 3) := by decide +kernel
theorem dX2_drawBooks_97 : decode cX2_drawBooks 97 = .ok (.iinc 1 1, 3) := by decide +kernel
theorem dX2_drawBooks_100 : decode cX2_drawBooks 100 = .ok (.goto (-84), 3) := by decide +kernel
theorem dX2_drawBooks_103 : decode cX2_drawBooks 103 = .ok (.return_, 1) := by decide +kernel
theorem dX2_part_0 : decode cX2_part 0 = .ok (.lload_n 0, 1) := by decide +kernel
theorem dX2_part_1 : decode cX2_part 1 = .ok (.iload_n 2, 1) := by decide +kernel
theorem dX2_part_2 : decode cX2_part 2 = .ok (.i2l, 1) := by decide +kernel
theorem dX2_part_3 : decode cX2_part 3 = .ok (.lmul, 1) := by decide +kernel
theorem dX2_part_4 : decode cX2_part 4 = .ok (.ldc2_w 191, 3) := by decide +kernel
theorem dX2_part_7 : decode cX2_part 7 = .ok (.ldiv, 1) := by decide +kernel
theorem dX2_part_8 : decode cX2_part 8 = .ok (.lreturn, 1) := by decide +kernel
theorem dX3_init_0 : decode cX3_init 0 = .ok (.aload_n 0, 1) := by decide +kernel
theorem dX3_init_1 : decode cX3_init 1 = .ok (.invokespecial 1, 3) := by decide +kernel
theorem dX3_init_4 : decode cX3_init 4 = .ok (.aload_n 0, 1) := by decide +kernel
theorem dX3_init_5 : decode cX3_init 5 = .ok (.bipush 80, 2) := by decide +kernel
theorem dX3_init_7 : decode cX3_init 7 = .ok (.newarray .int, 2) := by decide +kernel
theorem dX3_init_9 : decode cX3_init 9 = .ok (.putfield 7, 3) := by decide +kernel
theorem dX3_init_12 : decode cX3_init 12 = .ok (.aload_n 0, 1) := by decide +kernel
theorem dX3_init_13 : decode cX3_init 13 = .ok (.bipush 20, 2) := by decide +kernel
theorem dX3_init_15 : decode cX3_init 15 = .ok (.newarray .int, 2) := by decide +kernel
theorem dX3_init_17 : decode cX3_init 17 = .ok (.putfield 13, 3) := by decide +kernel
theorem dX3_init_20 : decode cX3_init 20 = .ok (.aload_n 0, 1) := by decide +kernel
theorem dX3_init_21 : decode cX3_init 21 = .ok (.bipush 8, 2) := by decide +kernel
theorem dX3_init_23 : decode cX3_init 23 = .ok (.newarray .int, 2) := by decide +kernel
theorem dX3_init_25 : decode cX3_init 25 = .ok (.putfield 16, 3) := by decide +kernel
theorem dX3_init_28 : decode cX3_init 28 = .ok (.aload_n 0, 1) := by decide +kernel
theorem dX3_init_29 : decode cX3_init 29 = .ok (.iconst 2, 1) := by decide +kernel
theorem dX3_init_30 : decode cX3_init 30 = .ok (.newarray .int, 2) := by decide +kernel
theorem dX3_init_32 : decode cX3_init 32 = .ok (.putfield 19, 3) := by decide +kernel
theorem dX3_init_35 : decode cX3_init 35 = .ok (.aload_n 0, 1) := by decide +kernel
theorem dX3_init_36 : decode cX3_init 36 = .ok (.iconst 2, 1) := by decide +kernel
theorem dX3_init_37 : decode cX3_init 37 = .ok (.newarray .int, 2) := by decide +kernel
theorem dX3_init_39 : decode cX3_init 39 = .ok (.putfield 22, 3) := by decide +kernel
theorem dX3_init_42 : decode cX3_init 42 = .ok (.aload_n 0, 1) := by decide +kernel
theorem dX3_init_43 : decode cX3_init 43 = .ok (.iconst 2, 1) := by decide +kernel
theorem dX3_init_44 : decode cX3_init 44 = .ok (.newarray .int, 2) := by decide +kernel
theorem dX3_init_46 : decode cX3_init 46 = .ok (.putfield 25, 3) := by decide +kernel
theorem dX3_init_49 : decode cX3_init 49 = .ok (.aload_n 0, 1) := by decide +kernel
theorem dX3_init_50 : decode cX3_init 50 = .ok (.bipush 8, 2) := by decide +kernel
theorem dX3_init_52 : decode cX3_init 52 = .ok (.newarray .int, 2) := by decide +kernel
theorem dX3_init_54 : decode cX3_init 54 = .ok (.putfield 28, 3) := by decide +kernel
theorem dX3_init_57 : decode cX3_init 57 = .ok (.aload_n 0, 1) := by decide +kernel
theorem dX3_init_58 : decode cX3_init 58 = .ok (.bipush 8, 2) := by decide +kernel
theorem dX3_init_60 : decode cX3_init 60 = .ok (.newarray .int, 2) := by decide +kernel
theorem dX3_init_62 : decode cX3_init 62 = .ok (.putfield 31, 3) := by decide +kernel
theorem dX3_init_65 : decode cX3_init 65 = .ok (.aload_n 0, 1) := by decide +kernel
theorem dX3_init_66 : decode cX3_init 66 = .ok (.bipush 8, 2) := by decide +kernel
theorem dX3_init_68 : decode cX3_init 68 = .ok (.newarray .int, 2) := by decide +kernel
theorem dX3_init_70 : decode cX3_init 70 = .ok (.putfield 34, 3) := by decide +kernel
theorem dX3_init_73 : decode cX3_init 73 = .ok (.aload_n 0, 1) := by decide +kernel
theorem dX3_init_74 : decode cX3_init 74 = .ok (.bipush 8, 2) := by decide +kernel
theorem dX3_init_76 : decode cX3_init 76 = .ok (.newarray .int, 2) := by decide +kernel
theorem dX3_init_78 : decode cX3_init 78 = .ok (.putfield 37, 3) := by decide +kernel
theorem dX3_init_81 : decode cX3_init 81 = .ok (.aload_n 0, 1) := by decide +kernel
theorem dX3_init_82 : decode cX3_init 82 = .ok (.bipush 8, 2) := by decide +kernel
theorem dX3_init_84 : decode cX3_init 84 = .ok (.newarray .int, 2) := by decide +kernel
theorem dX3_init_86 : decode cX3_init 86 = .ok (.putfield 40, 3) := by decide +kernel
theorem dX3_init_89 : decode cX3_init 89 = .ok (.aload_n 0, 1) := by decide +kernel
theorem dX3_init_90 : decode cX3_init 90 = .ok (.bipush 8, 2) := by decide +kernel
theorem dX3_init_92 : decode cX3_init 92 = .ok (.newarray .int, 2) := by decide +kernel
theorem dX3_init_94 : decode cX3_init 94 = .ok (.putfield 43, 3) := by decide +kernel
theorem dX3_init_97 : decode cX3_init 97 = .ok (.aload_n 0, 1) := by decide +kernel
theorem dX3_init_98 : decode cX3_init 98 = .ok (.bipush 20, 2) := by decide +kernel
theorem dX3_init_100 : decode cX3_init 100 = .ok (.newarray .long, 2) := by decide +kernel
theorem dX3_init_102 : decode cX3_init 102 = .ok (.putfield 46, 3) := by decide +kernel
theorem dX3_init_105 : decode cX3_init 105 = .ok (.aload_n 0, 1) := by decide +kernel
theorem dX3_init_106 : decode cX3_init 106 = .ok (.bipush 20, 2) := by decide +kernel
theorem dX3_init_108 : decode cX3_init 108 = .ok (.newarray .long, 2) := by decide +kernel
theorem dX3_init_110 : decode cX3_init 110 = .ok (.putfield 50, 3) := by decide +kernel
theorem dX3_init_113 : decode cX3_init 113 = .ok (.aload_n 0, 1) := by decide +kernel
theorem dX3_init_114 : decode cX3_init 114 = .ok (.iconst 2, 1) := by decide +kernel
theorem dX3_init_115 : decode cX3_init 115 = .ok (.newarray .long, 2) := by decide +kernel
theorem dX3_init_117 : decode cX3_init 117 = .ok (.putfield 53, 3) := by decide +kernel
theorem dX3_init_120 : decode cX3_init 120 = .ok (.return_, 1) := by decide +kernel
theorem dX3_thrown_0 : decode cX3_thrown 0 = .ok (.aload_n 0, 1) := by decide +kernel
theorem dX3_thrown_1 : decode cX3_thrown 1 = .ok (.getfield 56, 3) := by decide +kernel
theorem dX3_thrown_4 : decode cX3_thrown 4 = .ok (.ireturn, 1) := by decide +kernel
theorem dX3_fails_0 : decode cX3_fails 0 = .ok (.aload_n 0, 1) := by decide +kernel
theorem dX3_fails_1 : decode cX3_fails 1 = .ok (.iload_n 1, 1) := by decide +kernel
theorem dX3_fails_2 : decode cX3_fails 2 = .ok (.putfield 56, 3) := by decide +kernel
theorem dX3_fails_5 : decode cX3_fails 5 = .ok (.iconst 0, 1) := by decide +kernel
theorem dX3_fails_6 : decode cX3_fails 6 = .ok (.ireturn, 1) := by decide +kernel
theorem dX3_in_0 : decode cX3_in 0 = .ok (.iload_n 0, 1) := by decide +kernel
theorem dX3_in_1 : decode cX3_in 1 = .ok (.iload_n 1, 1) := by decide +kernel
theorem dX3_in_2 : decode cX3_in 2 = .ok (.if_icmp .lt 12, 3) := by decide +kernel
theorem dX3_in_5 : decode cX3_in 5 = .ok (.iload_n 0, 1) := by decide +kernel
theorem dX3_in_6 : decode cX3_in 6 = .ok (.iload_n 2, 1) := by decide +kernel
theorem dX3_in_7 : decode cX3_in 7 = .ok (.if_icmp .gt 7, 3) := by decide +kernel
theorem dX3_in_10 : decode cX3_in 10 = .ok (.iconst 1, 1) := by decide +kernel
theorem dX3_in_11 : decode cX3_in 11 = .ok (.goto 4, 3) := by decide +kernel
theorem dX3_in_14 : decode cX3_in 14 = .ok (.iconst 0, 1) := by decide +kernel
theorem dX3_in_15 : decode cX3_in 15 = .ok (.ireturn, 1) := by decide +kernel
set_option maxRecDepth 20000 in
theorem ggX3_isPicture_X3_in : GoodIn wsX3_isPicture wsX3_in := goodIn_r _ [4] (by decide +kernel) (by decide +kernel)
set_option maxRecDepth 20000 in
theorem gX3_isPicture_X3_in : GoodIn wsX3_isPicture (va_wsS RX3 60 yX3_in wsX3_in) := goodIn_app (goodIn_of _ (by decide +kernel)) ggX3_isPicture_X3_in
theorem dX3_isPicture_0 : decode cX3_isPicture 0 = .ok (.iload_n 0, 1) := by decide +kernel
theorem dX3_isPicture_1 : decode cX3_isPicture 1 = .ok (.iconst 0, 1) := by decide +kernel
theorem dX3_isPicture_2 : decode cX3_isPicture 2 = .ok (.iconst 1, 1) := by decide +kernel
theorem dX3_isPicture_3 : decode cX3_isPicture 3 = .ok (.invokestatic 60, 3) := by decide +kernel
theorem dX3_isPicture_6 : decode cX3_isPicture 6 = .ok (.ireturn, 1) := by decide +kernel
set_option maxRecDepth 20000 in
theorem ggX3_isWindow_X3_isPicture : GoodIn wsX3_isWindow wsX3_isPicture := goodIn_r _ [4, 5, 6, 3, 7] (by decide +kernel) (by decide +kernel)
set_option maxRecDepth 20000 in
theorem gX3_isWindow_X3_isPicture : GoodIn wsX3_isWindow (va_wsS RX3 64 yX3_isPicture wsX3_isPicture) := goodIn_app (goodIn_of _ (by decide +kernel)) ggX3_isWindow_X3_isPicture
set_option maxRecDepth 20000 in
theorem ggX3_isWindow_X3_in : GoodIn wsX3_isWindow wsX3_in := goodIn_r _ [7] (by decide +kernel) (by decide +kernel)
set_option maxRecDepth 20000 in
theorem gX3_isWindow_X3_in : GoodIn wsX3_isWindow (va_wsS RX3 60 yX3_in wsX3_in) := goodIn_app (goodIn_of _ (by decide +kernel)) ggX3_isWindow_X3_in
theorem dX3_isWindow_0 : decode cX3_isWindow 0 = .ok (.iload_n 0, 1) := by decide +kernel
theorem dX3_isWindow_1 : decode cX3_isWindow 1 = .ok (.invokestatic 64, 3) := by decide +kernel
theorem dX3_isWindow_4 : decode cX3_isWindow 4 = .ok (.ifCond .eq 16, 3) := by decide +kernel
theorem dX3_isWindow_7 : decode cX3_isWindow 7 = .ok (.iload_n 1, 1) := by decide +kernel
theorem dX3_isWindow_8 : decode cX3_isWindow 8 = .ok (.iconst 0, 1) := by decide +kernel
theorem dX3_isWindow_9 : decode cX3_isWindow 9 = .ok (.iconst 3, 1) := by decide +kernel
theorem dX3_isWindow_10 : decode cX3_isWindow 10 = .ok (.invokestatic 60, 3) := by decide +kernel
theorem dX3_isWindow_13 : decode cX3_isWindow 13 = .ok (.ifCond .eq 7, 3) := by decide +kernel
theorem dX3_isWindow_16 : decode cX3_isWindow 16 = .ok (.iconst 1, 1) := by decide +kernel
theorem dX3_isWindow_17 : decode cX3_isWindow 17 = .ok (.goto 4, 3) := by decide +kernel
theorem dX3_isWindow_20 : decode cX3_isWindow 20 = .ok (.iconst 0, 1) := by decide +kernel
theorem dX3_isWindow_21 : decode cX3_isWindow 21 = .ok (.ireturn, 1) := by decide +kernel
theorem dX3_at_0 : decode cX3_at 0 = .ok (.bipush 40, 2) := by decide +kernel
theorem dX3_at_2 : decode cX3_at 2 = .ok (.iload_n 0, 1) := by decide +kernel
theorem dX3_at_3 : decode cX3_at 3 = .ok (.imul, 1) := by decide +kernel
theorem dX3_at_4 : decode cX3_at 4 = .ok (.iconst 4, 1) := by decide +kernel
theorem dX3_at_5 : decode cX3_at 5 = .ok (.iload_n 1, 1) := by decide +kernel
theorem dX3_at_6 : decode cX3_at 6 = .ok (.imul, 1) := by decide +kernel
theorem dX3_at_7 : decode cX3_at 7 = .ok (.iadd, 1) := by decide +kernel
theorem dX3_at_8 : decode cX3_at 8 = .ok (.iload_n 2, 1) := by decide +kernel
theorem dX3_at_9 : decode cX3_at 9 = .ok (.iadd, 1) := by decide +kernel
theorem dX3_at_10 : decode cX3_at 10 = .ok (.ireturn, 1) := by decide +kernel
set_option maxRecDepth 20000 in
theorem ggX3_setRates_X3_isPicture : GoodIn wsX3_setRates wsX3_isPicture := goodIn_r _ [8, 9, 10, 7, 11] (by decide +kernel) (by decide +kernel)
set_option maxRecDepth 20000 in
theorem gX3_setRates_X3_isPicture : GoodIn wsX3_setRates (va_wsS RX3 64 yX3_isPicture wsX3_isPicture) := goodIn_app (goodIn_of _ (by decide +kernel)) ggX3_setRates_X3_isPicture
set_option maxRecDepth 20000 in
theorem ggX3_setRates_X3_fails : GoodIn wsX3_setRates wsX3_fails := goodIn_r _ [15, 1, 16, 17, 18, 19, 20, 21, 22, 23, 24, 25, 26, 27, 28, 29, 30, 31, 32, 33, 34] (by decide +kernel) (by decide +kernel)
set_option maxRecDepth 20000 in
theorem gX3_setRates_X3_fails : GoodIn wsX3_setRates (wsV RX3 68 RX3 yX3_fails wsX3_fails) := goodIn_app (goodIn_of _ (by decide +kernel)) ggX3_setRates_X3_fails
set_option maxRecDepth 20000 in
theorem ggX3_setRates_X3_in : GoodIn wsX3_setRates wsX3_in := goodIn_r _ [11] (by decide +kernel) (by decide +kernel)
set_option maxRecDepth 20000 in
theorem gX3_setRates_X3_in : GoodIn wsX3_setRates (va_wsS RX3 60 yX3_in wsX3_in) := goodIn_app (goodIn_of _ (by decide +kernel)) ggX3_setRates_X3_in
theorem dX3_setRates_0 : decode cX3_setRates 0 = .ok (.aload_n 0, 1) := by decide +kernel
theorem dX3_setRates_1 : decode cX3_setRates 1 = .ok (.iconst 0, 1) := by decide +kernel
theorem dX3_setRates_2 : decode cX3_setRates 2 = .ok (.putfield 56, 3) := by decide +kernel
theorem dX3_setRates_5 : decode cX3_setRates 5 = .ok (.iload_n 1, 1) := by decide +kernel
theorem dX3_setRates_6 : decode cX3_setRates 6 = .ok (.invokestatic 64, 3) := by decide +kernel
theorem dX3_setRates_9 : decode cX3_setRates 9 = .ok (.ifCond .ne 10, 3) := by decide +kernel
theorem dX3_setRates_12 : decode cX3_setRates 12 = .ok (.aload_n 0, 1) := by decide +kernel
theorem dX3_setRates_13 : decode cX3_setRates 13 = .ok (.iconst 1, 1) := by decide +kernel
theorem dX3_setRates_14 : decode cX3_setRates 14 = .ok (.invokevirtual 68, 3) := by decide +kernel
theorem dX3_setRates_17 : decode cX3_setRates 17 = .ok (.pop, 1) := by decide +kernel
theorem dX3_setRates_18 : decode cX3_setRates 18 = .ok (.return_, 1) := by decide +kernel
theorem dX3_setRates_19 : decode cX3_setRates 19 = .ok (.iload_n 2, 1) := by decide +kernel
theorem dX3_setRates_20 : decode cX3_setRates 20 = .ok (.iconst 0, 1) := by decide +kernel
theorem dX3_setRates_21 : decode cX3_setRates 21 = .ok (.sipush 10000, 3) := by decide +kernel
theorem dX3_setRates_24 : decode cX3_setRates 24 = .ok (.invokestatic 60, 3) := by decide +kernel
theorem dX3_setRates_27 : decode cX3_setRates 27 = .ok (.ifCond .eq 26, 3) := by decide +kernel
theorem dX3_setRates_30 : decode cX3_setRates 30 = .ok (.iload_n 3, 1) := by decide +kernel
theorem dX3_setRates_31 : decode cX3_setRates 31 = .ok (.iconst 0, 1) := by decide +kernel
theorem dX3_setRates_32 : decode cX3_setRates 32 = .ok (.sipush 10000, 3) := by decide +kernel
theorem dX3_setRates_35 : decode cX3_setRates 35 = .ok (.invokestatic 60, 3) := by decide +kernel
theorem dX3_setRates_38 : decode cX3_setRates 38 = .ok (.ifCond .eq 15, 3) := by decide +kernel
theorem dX3_setRates_41 : decode cX3_setRates 41 = .ok (.iload 4, 2) := by decide +kernel
theorem dX3_setRates_43 : decode cX3_setRates 43 = .ok (.iconst 0, 1) := by decide +kernel
theorem dX3_setRates_44 : decode cX3_setRates 44 = .ok (.sipush 2000, 3) := by decide +kernel
theorem dX3_setRates_47 : decode cX3_setRates 47 = .ok (.invokestatic 60, 3) := by decide +kernel
theorem dX3_setRates_50 : decode cX3_setRates 50 = .ok (.ifCond .ne 10, 3) := by decide +kernel
theorem dX3_setRates_53 : decode cX3_setRates 53 = .ok (.aload_n 0, 1) := by decide +kernel
theorem dX3_setRates_54 : decode cX3_setRates 54 = .ok (.iconst 2, 1) := by decide +kernel
theorem dX3_setRates_55 : decode cX3_setRates 55 = .ok (.invokevirtual 68, 3) := by decide +kernel
theorem dX3_setRates_58 : decode cX3_setRates 58 = .ok (.pop, 1) := by decide +kernel
theorem dX3_setRates_59 : decode cX3_setRates 59 = .ok (.return_, 1) := by decide +kernel
theorem dX3_setRates_60 : decode cX3_setRates 60 = .ok (.aload_n 0, 1) := by decide +kernel
theorem dX3_setRates_61 : decode cX3_setRates 61 = .ok (.getfield 19, 3) := by decide +kernel
theorem dX3_setRates_64 : decode cX3_setRates 64 = .ok (.iload_n 1, 1) := by decide +kernel
theorem dX3_setRates_65 : decode cX3_setRates 65 = .ok (.iload_n 2, 1) := by decide +kernel
theorem dX3_setRates_66 : decode cX3_setRates 66 = .ok (.iastore, 1) := by decide +kernel
theorem dX3_setRates_67 : decode cX3_setRates 67 = .ok (.aload_n 0, 1) := by decide +kernel
theorem dX3_setRates_68 : decode cX3_setRates 68 = .ok (.getfield 22, 3) := by decide +kernel
theorem dX3_setRates_71 : decode cX3_setRates 71 = .ok (.iload_n 1, 1) := by decide +kernel
theorem dX3_setRates_72 : decode cX3_setRates 72 = .ok (.iload_n 3, 1) := by decide +kernel
theorem dX3_setRates_73 : decode cX3_setRates 73 = .ok (.iastore, 1) := by decide +kernel
theorem dX3_setRates_74 : decode cX3_setRates 74 = .ok (.aload_n 0, 1) := by decide +kernel
theorem dX3_setRates_75 : decode cX3_setRates 75 = .ok (.getfield 25, 3) := by decide +kernel
theorem dX3_setRates_78 : decode cX3_setRates 78 = .ok (.iload_n 1, 1) := by decide +kernel
theorem dX3_setRates_79 : decode cX3_setRates 79 = .ok (.iload 4, 2) := by decide +kernel
theorem dX3_setRates_81 : decode cX3_setRates 81 = .ok (.iastore, 1) := by decide +kernel
theorem dX3_setRates_82 : decode cX3_setRates 82 = .ok (.return_, 1) := by decide +kernel
set_option maxRecDepth 20000 in
theorem ggX3_setFee_X3_isWindow : GoodIn wsX3_setFee wsX3_isWindow := goodIn_r _ [6, 7, 8, 5, 9, 10, 11, 12] (by decide +kernel) (by decide +kernel)
set_option maxRecDepth 20000 in
theorem gX3_setFee_X3_isWindow : GoodIn wsX3_setFee (va_wsS RX3 72 yX3_isWindow wsX3_isWindow) := goodIn_app (goodIn_of _ (by decide +kernel)) ggX3_setFee_X3_isWindow
set_option maxRecDepth 20000 in
theorem ggX3_setFee_X3_fails : GoodIn wsX3_setFee wsX3_fails := goodIn_r _ [16, 1, 17, 18, 19, 20, 21, 22, 23, 24, 25, 26, 27, 28, 29, 30, 31, 32, 33, 34, 35] (by decide +kernel) (by decide +kernel)
set_option maxRecDepth 20000 in
theorem gX3_setFee_X3_fails : GoodIn wsX3_setFee (wsV RX3 68 RX3 yX3_fails wsX3_fails) := goodIn_app (goodIn_of _ (by decide +kernel)) ggX3_setFee_X3_fails
set_option maxRecDepth 20000 in
theorem ggX3_setFee_X3_in : GoodIn wsX3_setFee wsX3_in := goodIn_r _ [12] (by decide +kernel) (by decide +kernel)
set_option maxRecDepth 20000 in
theorem gX3_setFee_X3_in : GoodIn wsX3_setFee (va_wsS RX3 60 yX3_in wsX3_in) := goodIn_app (goodIn_of _ (by decide +kernel)) ggX3_setFee_X3_in
theorem dX3_setFee_0 : decode cX3_setFee 0 = .ok (.aload_n 0, 1) := by decide +kernel
theorem dX3_setFee_1 : decode cX3_setFee 1 = .ok (.iconst 0, 1) := by decide +kernel
theorem dX3_setFee_2 : decode cX3_setFee 2 = .ok (.putfield 56, 3) := by decide +kernel
theorem dX3_setFee_5 : decode cX3_setFee 5 = .ok (.iload_n 1, 1) := by decide +kernel
theorem dX3_setFee_6 : decode cX3_setFee 6 = .ok (.iload_n 2, 1) := by decide +kernel
theorem dX3_setFee_7 : decode cX3_setFee 7 = .ok (.invokestatic 72, 3) := by decide +kernel
theorem dX3_setFee_10 : decode cX3_setFee 10 = .ok (.ifCond .ne 9, 3) := by decide +kernel
theorem dX3_setFee_13 : decode cX3_setFee 13 = .ok (.aload_n 0, 1) := by decide +kernel
theorem dX3_setFee_14 : decode cX3_setFee 14 = .ok (.iconst 1, 1) := by decide +kernel
theorem dX3_setFee_15 : decode cX3_setFee 15 = .ok (.invokevirtual 68, 3) := by decide +kernel
theorem dX3_setFee_18 : decode cX3_setFee 18 = .ok (.ireturn, 1) := by decide +kernel
theorem dX3_setFee_19 : decode cX3_setFee 19 = .ok (.iload_n 3, 1) := by decide +kernel
theorem dX3_setFee_20 : decode cX3_setFee 20 = .ok (.iconst 0, 1) := by decide +kernel
theorem dX3_setFee_21 : decode cX3_setFee 21 = .ok (.sipush 10000, 3) := by decide +kernel
theorem dX3_setFee_24 : decode cX3_setFee 24 = .ok (.invokestatic 60, 3) := by decide +kernel
theorem dX3_setFee_27 : decode cX3_setFee 27 = .ok (.ifCond .ne 9, 3) := by decide +kernel
theorem dX3_setFee_30 : decode cX3_setFee 30 = .ok (.aload_n 0, 1) := by decide +kernel
theorem dX3_setFee_31 : decode cX3_setFee 31 = .ok (.iconst 2, 1) := by decide +kernel
theorem dX3_setFee_32 : decode cX3_setFee 32 = .ok (.invokevirtual 68, 3) := by decide +kernel
theorem dX3_setFee_35 : decode cX3_setFee 35 = .ok (.ireturn, 1) := by decide +kernel
theorem dX3_setFee_36 : decode cX3_setFee 36 = .ok (.aload_n 0, 1) := by decide +kernel
theorem dX3_setFee_37 : decode cX3_setFee 37 = .ok (.getfield 16, 3) := by decide +kernel
theorem dX3_setFee_40 : decode cX3_setFee 40 = .ok (.iconst 4, 1) := by decide +kernel
theorem dX3_setFee_41 : decode cX3_setFee 41 = .ok (.iload_n 1, 1) := by decide +kernel
theorem dX3_setFee_42 : decode cX3_setFee 42 = .ok (.imul, 1) := by decide +kernel
theorem dX3_setFee_43 : decode cX3_setFee 43 = .ok (.iload_n 2, 1) := by decide +kernel
theorem dX3_setFee_44 : decode cX3_setFee 44 = .ok (.iadd, 1) := by decide +kernel
theorem dX3_setFee_45 : decode cX3_setFee 45 = .ok (.iaload, 1) := by decide +kernel
theorem dX3_setFee_46 : decode cX3_setFee 46 = .ok (.istore 4, 2) := by decide +kernel
theorem dX3_setFee_48 : decode cX3_setFee 48 = .ok (.aload_n 0, 1) := by decide +kernel
theorem dX3_setFee_49 : decode cX3_setFee 49 = .ok (.getfield 16, 3) := by decide +kernel
theorem dX3_setFee_52 : decode cX3_setFee 52 = .ok (.iconst 4, 1) := by decide +kernel
theorem dX3_setFee_53 : decode cX3_setFee 53 = .ok (.iload_n 1, 1) := by decide +kernel
theorem dX3_setFee_54 : decode cX3_setFee 54 = .ok (.imul, 1) := by decide +kernel
theorem dX3_setFee_55 : decode cX3_setFee 55 = .ok (.iload_n 2, 1) := by decide +kernel
theorem dX3_setFee_56 : decode cX3_setFee 56 = .ok (.iadd, 1) := by decide +kernel
theorem dX3_setFee_57 : decode cX3_setFee 57 = .ok (.iload_n 3, 1) := by decide +kernel
theorem dX3_setFee_58 : decode cX3_setFee 58 = .ok (.iastore, 1) := by decide +kernel
theorem dX3_setFee_59 : decode cX3_setFee 59 = .ok (.iload 4, 2) := by decide +kernel
theorem dX3_setFee_61 : decode cX3_setFee 61 = .ok (.ireturn, 1) := by decide +kernel
theorem dX3_setCrossed_0 : decode cX3_setCrossed 0 = .ok (.aload_n 0, 1) := by decide +kernel
theorem dX3_setCrossed_1 : decode cX3_setCrossed 1 = .ok (.iconst 0, 1) := by decide +kernel
theorem dX3_setCrossed_2 : decode cX3_setCrossed 2 = .ok (.putfield 56, 3) := by decide +kernel
theorem dX3_setCrossed_5 : decode cX3_setCrossed 5 = .ok (.aload_n 0, 1) := by decide +kernel
theorem dX3_setCrossed_6 : decode cX3_setCrossed 6 = .ok (.getfield 76, 3) := by decide +kernel
theorem dX3_setCrossed_9 : decode cX3_setCrossed 9 = .ok (.istore_n 2, 1) := by decide +kernel
theorem dX3_setCrossed_10 : decode cX3_setCrossed 10 = .ok (.aload_n 0, 1) := by decide +kernel
theorem dX3_setCrossed_11 : decode cX3_setCrossed 11 = .ok (.iload_n 1, 1) := by decide +kernel
theorem dX3_setCrossed_12 : decode cX3_setCrossed 12 = .ok (.putfield 76, 3) := by decide +kernel
theorem dX3_setCrossed_15 : decode cX3_setCrossed 15 = .ok (.iload_n 2, 1) := by decide +kernel
theorem dX3_setCrossed_16 : decode cX3_setCrossed 16 = .ok (.ireturn, 1) := by decide +kernel
set_option maxRecDepth 20000 in
theorem ggX3_add_X3_isPicture : GoodIn wsX3_add wsX3_isPicture := goodIn_r _ [12, 13, 14, 11, 15] (by decide +kernel) (by decide +kernel)
set_option maxRecDepth 20000 in
theorem gX3_add_X3_isPicture : GoodIn wsX3_add (va_wsS RX3 64 yX3_isPicture wsX3_isPicture) := goodIn_app (goodIn_of _ (by decide +kernel)) ggX3_add_X3_isPicture
set_option maxRecDepth 20000 in
theorem ggX3_add_X3_fails : GoodIn wsX3_add wsX3_fails := goodIn_r _ [19, 1, 20, 21, 22, 23, 24, 25, 26, 27, 28, 29, 30, 31, 32, 33, 34, 35, 36, 37, 38] (by decide +kernel) (by decide +kernel)
set_option maxRecDepth 20000 in
theorem gX3_add_X3_fails : GoodIn wsX3_add (wsV RX3 68 RX3 yX3_fails wsX3_fails) := goodIn_app (goodIn_of _ (by decide +kernel)) ggX3_add_X3_fails
set_option maxRecDepth 20000 in
theorem ggX3_add_X3_in : GoodIn wsX3_add wsX3_in := goodIn_r _ [15] (by decide +kernel) (by decide +kernel)
set_option maxRecDepth 20000 in
theorem gX3_add_X3_in : GoodIn wsX3_add (va_wsS RX3 60 yX3_in wsX3_in) := goodIn_app (goodIn_of _ (by decide +kernel)) ggX3_add_X3_in
theorem dX3_add_0 : decode cX3_add 0 = .ok (.aload_n 0, 1) := by decide +kernel
theorem dX3_add_1 : decode cX3_add 1 = .ok (.iconst 0, 1) := by decide +kernel
theorem dX3_add_2 : decode cX3_add 2 = .ok (.putfield 56, 3) := by decide +kernel
theorem dX3_add_5 : decode cX3_add 5 = .ok (.iload_n 1, 1) := by decide +kernel
theorem dX3_add_6 : decode cX3_add 6 = .ok (.invokestatic 64, 3) := by decide +kernel
theorem dX3_add_9 : decode cX3_add 9 = .ok (.ifCond .ne 9, 3) := by decide +kernel
theorem dX3_add_12 : decode cX3_add 12 = .ok (.aload_n 0, 1) := by decide +kernel
theorem dX3_add_13 : decode cX3_add 13 = .ok (.iconst 1, 1) := by decide +kernel
theorem dX3_add_14 : decode cX3_add 14 = .ok (.invokevirtual 68, 3) := by decide +kernel
theorem dX3_add_17 : decode cX3_add 17 = .ok (.ireturn, 1) := by decide +kernel
theorem dX3_add_18 : decode cX3_add 18 = .ok (.iload_n 2, 1) := by decide +kernel
theorem dX3_add_19 : decode cX3_add 19 = .ok (.ifCond .ne 9, 3) := by decide +kernel
theorem dX3_add_22 : decode cX3_add 22 = .ok (.sipush 1000, 3) := by decide +kernel
theorem dX3_add_25 : decode cX3_add 25 = .ok (.goto 6, 3) := by decide +kernel
theorem dX3_add_28 : decode cX3_add 28 = .ok (.sipush 10000, 3) := by decide +kernel
theorem dX3_add_31 : decode cX3_add 31 = .ok (.istore 6, 2) := by decide +kernel
theorem dX3_add_33 : decode cX3_add 33 = .ok (.iload_n 2, 1) := by decide +kernel
theorem dX3_add_34 : decode cX3_add 34 = .ok (.iconst 0, 1) := by decide +kernel
theorem dX3_add_35 : decode cX3_add 35 = .ok (.iconst 3, 1) := by decide +kernel
theorem dX3_add_36 : decode cX3_add 36 = .ok (.invokestatic 60, 3) := by decide +kernel
theorem dX3_add_39 : decode cX3_add 39 = .ok (.ifCond .eq 35, 3) := by decide +kernel
theorem dX3_add_42 : decode cX3_add 42 = .ok (.iload_n 3, 1) := by decide +kernel
theorem dX3_add_43 : decode cX3_add 43 = .ok (.iconst 0, 1) := by decide +kernel
theorem dX3_add_44 : decode cX3_add 44 = .ok (.ldc 80, 2) := by decide +kernel
theorem dX3_add_46 : decode cX3_add 46 = .ok (.invokestatic 60, 3) := by decide +kernel
theorem dX3_add_49 : decode cX3_add 49 = .ok (.ifCond .eq 25, 3) := by decide +kernel
theorem dX3_add_52 : decode cX3_add 52 = .ok (.iload 4, 2) := by decide +kernel
theorem dX3_add_54 : decode cX3_add 54 = .ok (.iconst 0, 1) := by decide +kernel
theorem dX3_add_55 : decode cX3_add 55 = .ok (.iload 6, 2) := by decide +kernel
theorem dX3_add_57 : decode cX3_add 57 = .ok (.invokestatic 60, 3) := by decide +kernel
theorem dX3_add_60 : decode cX3_add 60 = .ok (.ifCond .eq 14, 3) := by decide +kernel
theorem dX3_add_63 : decode cX3_add 63 = .ok (.iload 5, 2) := by decide +kernel
theorem dX3_add_65 : decode cX3_add 65 = .ok (.iconst 0, 1) := by decide +kernel
theorem dX3_add_66 : decode cX3_add 66 = .ok (.iload 6, 2) := by decide +kernel
theorem dX3_add_68 : decode cX3_add 68 = .ok (.invokestatic 60, 3) := by decide +kernel
theorem dX3_add_71 : decode cX3_add 71 = .ok (.ifCond .ne 9, 3) := by decide +kernel
theorem dX3_add_74 : decode cX3_add 74 = .ok (.aload_n 0, 1) := by decide +kernel
theorem dX3_add_75 : decode cX3_add 75 = .ok (.iconst 2, 1) := by decide +kernel
theorem dX3_add_76 : decode cX3_add 76 = .ok (.invokevirtual 68, 3) := by decide +kernel
theorem dX3_add_79 : decode cX3_add 79 = .ok (.ireturn, 1) := by decide +kernel
theorem dX3_add_80 : decode cX3_add 80 = .ok (.iload 4, 2) := by decide +kernel
theorem dX3_add_82 : decode cX3_add 82 = .ok (.iload 5, 2) := by decide +kernel
theorem dX3_add_84 : decode cX3_add 84 = .ok (.if_icmp .le 8, 3) := by decide +kernel
theorem dX3_add_87 : decode cX3_add 87 = .ok (.iload 4, 2) := by decide +kernel
theorem dX3_add_89 : decode cX3_add 89 = .ok (.goto 5, 3) := by decide +kernel
theorem dX3_add_92 : decode cX3_add 92 = .ok (.iload 5, 2) := by decide +kernel
theorem dX3_add_94 : decode cX3_add 94 = .ok (.istore 7, 2) := by decide +kernel
theorem dX3_add_96 : decode cX3_add 96 = .ok (.iconst 0, 1) := by decide +kernel
theorem dX3_add_97 : decode cX3_add 97 = .ok (.istore 8, 2) := by decide +kernel
theorem dX3_add_99 : decode cX3_add 99 = .ok (.iload 8, 2) := by decide +kernel
theorem dX3_add_101 : decode cX3_add 101 = .ok (.aload_n 0, 1) := by decide +kernel
theorem dX3_add_102 : decode cX3_add 102 = .ok (.getfield 81, 3) := by decide +kernel
theorem dX3_add_105 : decode cX3_add 105 = .ok (.if_icmp .ge 91, 3) := by decide +kernel
theorem dX3_add_108 : decode cX3_add 108 = .ok (.iload_n 2, 1) := by decide +kernel
theorem dX3_add_109 : decode cX3_add 109 = .ok (.iconst 1, 1) := by decide +kernel
theorem dX3_add_110 : decode cX3_add 110 = .ok (.if_icmp .ne 86, 3) := by decide +kernel
theorem dX3_add_113 : decode cX3_add 113 = .ok (.aload_n 0, 1) := by decide +kernel
theorem dX3_add_114 : decode cX3_add 114 = .ok (.getfield 31, 3) := by decide +kernel
theorem dX3_add_117 : decode cX3_add 117 = .ok (.iload 8, 2) := by decide +kernel
theorem dX3_add_119 : decode cX3_add 119 = .ok (.iaload, 1) := by decide +kernel
theorem dX3_add_120 : decode cX3_add 120 = .ok (.iconst 1, 1) := by decide +kernel
theorem dX3_add_121 : decode cX3_add 121 = .ok (.if_icmp .ne 18, 3) := by decide +kernel
theorem dX3_add_124 : decode cX3_add 124 = .ok (.aload_n 0, 1) := by decide +kernel
theorem dX3_add_125 : decode cX3_add 125 = .ok (.getfield 28, 3) := by decide +kernel
theorem dX3_add_128 : decode cX3_add 128 = .ok (.iload 8, 2) := by decide +kernel
theorem dX3_add_130 : decode cX3_add 130 = .ok (.iaload, 1) := by decide +kernel
theorem dX3_add_131 : decode cX3_add 131 = .ok (.iload_n 1, 1) := by decide +kernel
theorem dX3_add_132 : decode cX3_add 132 = .ok (.if_icmp .ne 7, 3) := by decide +kernel
theorem dX3_add_135 : decode cX3_add 135 = .ok (.iconst 1, 1) := by decide +kernel
theorem dX3_add_136 : decode cX3_add 136 = .ok (.goto 4, 3) := by decide +kernel
theorem dX3_add_139 : decode cX3_add 139 = .ok (.iconst 0, 1) := by decide +kernel
theorem dX3_add_140 : decode cX3_add 140 = .ok (.istore 9, 2) := by decide +kernel
theorem dX3_add_142 : decode cX3_add 142 = .ok (.iload 7, 2) := by decide +kernel
theorem dX3_add_144 : decode cX3_add 144 = .ok (.iload 9, 2) := by decide +kernel
theorem dX3_add_146 : decode cX3_add 146 = .ok (.ifCond .ne 7, 3) := by decide +kernel
theorem dX3_add_149 : decode cX3_add 149 = .ok (.iconst 0, 1) := by decide +kernel
theorem dX3_add_150 : decode cX3_add 150 = .ok (.goto 37, 3) := by decide +kernel
theorem dX3_add_153 : decode cX3_add 153 = .ok (.aload_n 0, 1) := by decide +kernel
theorem dX3_add_154 : decode cX3_add 154 = .ok (.getfield 37, 3) := by decide +kernel
theorem dX3_add_157 : decode cX3_add 157 = .ok (.iload 8, 2) := by decide +kernel
theorem dX3_add_159 : decode cX3_add 159 = .ok (.iaload, 1) := by decide +kernel
theorem dX3_add_160 : decode cX3_add 160 = .ok (.aload_n 0, 1) := by decide +kernel
theorem dX3_add_161 : decode cX3_add 161 = .ok (.getfield 40, 3) := by decide +kernel
theorem dX3_add_164 : decode cX3_add 164 = .ok (.iload 8, 2) := by decide +kernel
theorem dX3_add_166 : decode cX3_add 166 = .ok (.iaload, 1) := by decide +kernel
theorem dX3_add_167 : decode cX3_add 167 = .ok (.if_icmp .le 13, 3) := by decide +kernel
theorem dX3_add_170 : decode cX3_add 170 = .ok (.aload_n 0, 1) := by decide +kernel
theorem dX3_add_171 : decode cX3_add 171 = .ok (.getfield 37, 3) := by decide +kernel
theorem dX3_add_174 : decode cX3_add 174 = .ok (.iload 8, 2) := by decide +kernel
theorem dX3_add_176 : decode cX3_add 176 = .ok (.iaload, 1) := by decide +kernel
theorem dX3_add_177 : decode cX3_add 177 = .ok (.goto 10, 3) := by decide +kernel
theorem dX3_add_180 : decode cX3_add 180 = .ok (.aload_n 0, 1) := by decide +kernel
theorem dX3_add_181 : decode cX3_add 181 = .ok (.getfield 40, 3) := by decide +kernel
theorem dX3_add_184 : decode cX3_add 184 = .ok (.iload 8, 2) := by decide +kernel
theorem dX3_add_186 : decode cX3_add 186 = .ok (.iaload, 1) := by decide +kernel
theorem dX3_add_187 : decode cX3_add 187 = .ok (.iadd, 1) := by decide +kernel
theorem dX3_add_188 : decode cX3_add 188 = .ok (.istore 7, 2) := by decide +kernel
theorem dX3_add_190 : decode cX3_add 190 = .ok (.iinc 8 1, 3) := by decide +kernel
theorem dX3_add_193 : decode cX3_add 193 = .ok (.goto (-94), 3) := by decide +kernel
theorem dX3_add_196 : decode cX3_add 196 = .ok (.aload_n 0, 1) := by decide +kernel
theorem dX3_add_197 : decode cX3_add 197 = .ok (.getfield 81, 3) := by decide +kernel
theorem dX3_add_200 : decode cX3_add 200 = .ok (.bipush 8, 2) := by decide +kernel
theorem dX3_add_202 : decode cX3_add 202 = .ok (.if_icmp .eq 16, 3) := by decide +kernel
theorem dX3_add_205 : decode cX3_add 205 = .ok (.iload_n 2, 1) := by decide +kernel
theorem dX3_add_206 : decode cX3_add 206 = .ok (.iconst 1, 1) := by decide +kernel
theorem dX3_add_207 : decode cX3_add 207 = .ok (.if_icmp .ne 17, 3) := by decide +kernel
theorem dX3_add_210 : decode cX3_add 210 = .ok (.iload 7, 2) := by decide +kernel
theorem dX3_add_212 : decode cX3_add 212 = .ok (.sipush 10000, 3) := by decide +kernel
theorem dX3_add_215 : decode cX3_add 215 = .ok (.if_icmp .le 9, 3) := by decide +kernel
theorem dX3_add_218 : decode cX3_add 218 = .ok (.aload_n 0, 1) := by decide +kernel
theorem dX3_add_219 : decode cX3_add 219 = .ok (.iconst 3, 1) := by decide +kernel
theorem dX3_add_220 : decode cX3_add 220 = .ok (.invokevirtual 68, 3) := by decide +kernel
theorem dX3_add_223 : decode cX3_add 223 = .ok (.ireturn, 1) := by decide +kernel
theorem dX3_add_224 : decode cX3_add 224 = .ok (.aload_n 0, 1) := by decide +kernel
theorem dX3_add_225 : decode cX3_add 225 = .ok (.getfield 28, 3) := by decide +kernel
theorem dX3_add_228 : decode cX3_add 228 = .ok (.aload_n 0, 1) := by decide +kernel
theorem dX3_add_229 : decode cX3_add 229 = .ok (.getfield 81, 3) := by decide +kernel
theorem dX3_add_232 : decode cX3_add 232 = .ok (.iload_n 1, 1) := by decide +kernel
theorem dX3_add_233 : decode cX3_add 233 = .ok (.iastore, 1) := by decide +kernel
theorem dX3_add_234 : decode cX3_add 234 = .ok (.aload_n 0, 1) := by decide +kernel
theorem dX3_add_235 : decode cX3_add 235 = .ok (.getfield 31, 3) := by decide +kernel
theorem dX3_add_238 : decode cX3_add 238 = .ok (.aload_n 0, 1) := by decide +kernel
theorem dX3_add_239 : decode cX3_add 239 = .ok (.getfield 81, 3) := by decide +kernel
theorem dX3_add_242 : decode cX3_add 242 = .ok (.iload_n 2, 1) := by decide +kernel
theorem dX3_add_243 : decode cX3_add 243 = .ok (.iastore, 1) := by decide +kernel
theorem dX3_add_244 : decode cX3_add 244 = .ok (.aload_n 0, 1) := by decide +kernel
theorem dX3_add_245 : decode cX3_add 245 = .ok (.getfield 34, 3) := by decide +kernel
theorem dX3_add_248 : decode cX3_add 248 = .ok (.aload_n 0, 1) := by decide +kernel
theorem dX3_add_249 : decode cX3_add 249 = .ok (.getfield 81, 3) := by decide +kernel
theorem dX3_add_252 : decode cX3_add 252 = .ok (.iload_n 3, 1) := by decide +kernel
theorem dX3_add_253 : decode cX3_add 253 = .ok (.iastore, 1) := by decide +kernel
theorem dX3_add_254 : decode cX3_add 254 = .ok (.aload_n 0, 1) := by decide +kernel
theorem dX3_add_255 : decode cX3_add 255 = .ok (.getfield 37, 3) := by decide +kernel
theorem dX3_add_258 : decode cX3_add 258 = .ok (.aload_n 0, 1) := by decide +kernel
theorem dX3_add_259 : decode cX3_add 259 = .ok (.getfield 81, 3) := by decide +kernel
theorem dX3_add_262 : decode cX3_add 262 = .ok (.iload 4, 2) := by decide +kernel
theorem dX3_add_264 : decode cX3_add 264 = .ok (.iastore, 1) := by decide +kernel
theorem dX3_add_265 : decode cX3_add 265 = .ok (.aload_n 0, 1) := by decide +kernel
theorem dX3_add_266 : decode cX3_add 266 = .ok (.getfield 40, 3) := by decide +kernel
theorem dX3_add_269 : decode cX3_add 269 = .ok (.aload_n 0, 1) := by decide +kernel
theorem dX3_add_270 : decode cX3_add 270 = .ok (.getfield 81, 3) := by decide +kernel
theorem dX3_add_273 : decode cX3_add 273 = .ok (.iload 5, 2) := by decide +kernel
theorem dX3_add_275 : decode cX3_add 275 = .ok (.iastore, 1) := by decide +kernel
theorem dX3_add_276 : decode cX3_add 276 = .ok (.aload_n 0, 1) := by decide +kernel
theorem dX3_add_277 : decode cX3_add 277 = .ok (.dup, 1) := by decide +kernel
theorem dX3_add_278 : decode cX3_add 278 = .ok (.getfield 81, 3) := by decide +kernel
theorem dX3_add_281 : decode cX3_add 281 = .ok (.iconst 1, 1) := by decide +kernel
theorem dX3_add_282 : decode cX3_add 282 = .ok (.iadd, 1) := by decide +kernel
theorem dX3_add_283 : decode cX3_add 283 = .ok (.putfield 81, 3) := by decide +kernel
theorem dX3_add_286 : decode cX3_add 286 = .ok (.aload_n 0, 1) := by decide +kernel
theorem dX3_add_287 : decode cX3_add 287 = .ok (.getfield 81, 3) := by decide +kernel
theorem dX3_add_290 : decode cX3_add 290 = .ok (.iconst 1, 1) := by decide +kernel
theorem dX3_add_291 : decode cX3_add 291 = .ok (.isub, 1) := by decide +kernel
theorem dX3_add_292 : decode cX3_add 292 = .ok (.ireturn, 1) := by decide +kernel
set_option maxRecDepth 20000 in
theorem ggX3_receive_X3_isWindow : GoodIn wsX3_receive wsX3_isWindow := goodIn_r _ [8, 9, 10, 7, 11, 12, 13, 14] (by decide +kernel) (by decide +kernel)
set_option maxRecDepth 20000 in
theorem gX3_receive_X3_isWindow : GoodIn wsX3_receive (va_wsS RX3 72 yX3_isWindow wsX3_isWindow) := goodIn_app (goodIn_of _ (by decide +kernel)) ggX3_receive_X3_isWindow
set_option maxRecDepth 20000 in
theorem ggX3_receive_X3_fails : GoodIn wsX3_receive wsX3_fails := goodIn_r _ [18, 1, 22, 23, 24, 25, 26, 27, 28, 29, 30, 31, 32, 33, 34, 35, 36, 37, 38, 39, 40] (by decide +kernel) (by decide +kernel)
set_option maxRecDepth 20000 in
theorem gX3_receive_X3_fails : GoodIn wsX3_receive (wsV RX3 68 RX3 yX3_fails wsX3_fails) := goodIn_app (goodIn_of _ (by decide +kernel)) ggX3_receive_X3_fails
