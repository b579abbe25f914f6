set_option maxRecDepth 20000 in
theorem gX2_gross_X2_requirePicture : GoodIn wsX2_gross (va_wsS RX2 34 yX2_requirePicture wsX2_requirePicture) := goodIn_app (goodIn_of _ (by decide +kernel)) ggX2_gross_X2_requirePicture
set_option maxRecDepth 20000 in
theorem ggX2_gross_X2_drawBooks : GoodIn wsX2_gross wsX2_drawBooks := goodIn_r _ [11, 12, 13, 14, 15, 16, 17, 18, 19, 20, 21, 22, 23, 24, 25, 26, 27, 28, 29, 30, 31, 32, 33, 34, 35, 36, 37, 38, 39, 4, 40, 41, 42, 43, 44, 45, 46, 47, 48, 49, 50, 51, 52, 53, 54, 55, 56, 57, 58, 59, 60, 61, 62, 63, 64, 65, 66, 67, 68, 69, 70, 71, 72, 73, 74, 75, 76, 77, 78, 79, 80, 81, 82, 83, 84, 85, 86, 87, 88, 89, 90, 91, 92, 93, 94, 95, 96, 97, 98, 99, 100, 101, 102, 103, 104, 105, 106, 126, 127, 128, 129, 130, 111, 112, 113, 114, 115, 116, 117, 118, 119, 120, 121, 122, 123, 124, 125, 131, 132, 133, 134, 135, 136, 137, 138, 139, 140] (by decide +kernel) (by decide +kernel)
set_option maxRecDepth 20000 in
theorem gX2_gross_X2_drawBooks : GoodIn wsX2_gross (wsV RX2 125 RX2 yX2_drawBooks wsX2_drawBooks) := goodIn_app (goodIn_of _ (by decide +kernel)) ggX2_gross_X2_drawBooks
set_option maxRecDepth 20000 in
theorem ggX2_gross_X2_pictureOf : GoodIn wsX2_gross wsX2_pictureOf := goodIn_r _ [110, 12, 13, 126, 127, 128, 129, 130] (by decide +kernel) (by decide +kernel)
set_option maxRecDepth 20000 in
theorem gX2_gross_X2_pictureOf : GoodIn wsX2_gross (wsV RX2 42 RX2 yX2_pictureOf wsX2_pictureOf) := goodIn_app (goodIn_of _ (by decide +kernel)) ggX2_gross_X2_pictureOf
theorem dX2_gross_0 : decode cX2_gross 0 = .ok (.iload_n 1, 1) := by decide +kernel
theorem dX2_gross_1 : decode cX2_gross 1 = .ok (.invokestatic 34, 3) := by decide +kernel
theorem dX2_gross_4 : decode cX2_gross 4 = .ok (.aload_n 0, 1) := by decide +kernel
theorem dX2_gross_5 : decode cX2_gross 5 = .ok (.invokevirtual 125, 3) := by decide +kernel
theorem dX2_gross_8 : decode cX2_gross 8 = .ok (.aload_n 0, 1) := by decide +kernel
theorem dX2_gross_9 : decode cX2_gross 9 = .ok (.iload_n 1, 1) := by decide +kernel
theorem dX2_gross_10 : decode cX2_gross 10 = .ok (.invokevirtual 42, 3) := by decide +kernel
theorem dX2_gross_13 : decode cX2_gross 13 = .ok (.getfield 128, 3) := by decide +kernel
theorem dX2_gross_16 : decode cX2_gross 16 = .ok (.l2i, 1) := by decide +kernel
theorem dX2_gross_17 : decode cX2_gross 17 = .ok (.ireturn, 1) := by decide +kernel
set_option maxRecDepth 20000 in
theorem ggX2_adjusted_X2_requirePicture : GoodIn wsX2_adjusted wsX2_requirePicture := goodIn_ca (goodIn_r _ [5, 6, 7] (by decide +kernel) (by decide +kernel)) (goodIn_sub (fun _ h => List.mem_cons_of_mem _ (List.mem_append_right _ h)) (by decide +kernel))
set_option maxRecDepth 20000 in
theorem gX2_adjusted_X2_requirePicture : GoodIn wsX2_adjusted (va_wsS RX2 34 yX2_requirePicture wsX2_requirePicture) := goodIn_app (goodIn_of _ (by decide +kernel)) ggX2_adjusted_X2_requirePicture
set_option maxRecDepth 20000 in
theorem ggX2_adjusted_X2_drawBooks : GoodIn wsX2_adjusted wsX2_drawBooks := goodIn_r _ [11, 12, 13, 14, 15, 16, 17, 18, 19, 20, 21, 22, 23, 24, 25, 26, 27, 28, 29, 30, 31, 32, 33, 34, 35, 36, 37, 38, 39, 4, 40, 41, 42, 43, 44, 45, 46, 47, 48, 49, 50, 51, 52, 53, 54, 55, 56, 57, 58, 59, 60, 61, 62, 63, 64, 65, 66, 67, 68, 69, 70, 71, 72, 73, 74, 75, 76, 77, 78, 79, 80, 81, 82, 83, 84, 85, 86, 87, 88, 89, 90, 91, 92, 93, 94, 95, 96, 97, 98, 99, 100, 101, 102, 103, 104, 105, 106, 126, 127, 128, 129, 130, 111, 112, 113, 114, 115, 116, 117, 118, 119, 120, 121, 122, 123, 124, 125, 131, 132, 133, 134, 135, 136, 137, 138, 139, 140] (by decide +kernel) (by decide +kernel)
set_option maxRecDepth 20000 in
theorem gX2_adjusted_X2_drawBooks : GoodIn wsX2_adjusted (wsV RX2 125 RX2 yX2_drawBooks wsX2_drawBooks) := goodIn_app (goodIn_of _ (by decide +kernel)) ggX2_adjusted_X2_drawBooks
set_option maxRecDepth 20000 in
theorem ggX2_adjusted_X2_pictureOf : GoodIn wsX2_adjusted wsX2_pictureOf := goodIn_r _ [110, 12, 13, 126, 127, 128, 129, 130] (by decide +kernel) (by decide +kernel)
set_option maxRecDepth 20000 in
theorem gX2_adjusted_X2_pictureOf : GoodIn wsX2_adjusted (wsV RX2 42 RX2 yX2_pictureOf wsX2_pictureOf) := goodIn_app (goodIn_of _ (by decide +kernel)) ggX2_adjusted_X2_pictureOf
theorem dX2_adjusted_0 : decode cX2_adjusted 0 = .ok (.iload_n 1, 1) := by decide +kernel
theorem dX2_adjusted_1 : decode cX2_adjusted 1 = .ok (.invokestatic 34, 3) := by decide +kernel
theorem dX2_adjusted_4 : decode cX2_adjusted 4 = .ok (.aload_n 0, 1) := by decide +kernel
theorem dX2_adjusted_5 : decode cX2_adjusted 5 = .ok (.invokevirtual 125, 3) := by decide +kernel
theorem dX2_adjusted_8 : decode cX2_adjusted 8 = .ok (.aload_n 0, 1) := by decide +kernel
theorem dX2_adjusted_9 : decode cX2_adjusted 9 = .ok (.iload_n 1, 1) := by decide +kernel
theorem dX2_adjusted_10 : decode cX2_adjusted 10 = .ok (.invokevirtual 42, 3) := by decide +kernel
theorem dX2_adjusted_13 : decode cX2_adjusted 13 = .ok (.getfield 131, 3) := by decide +kernel
theorem dX2_adjusted_16 : decode cX2_adjusted 16 = .ok (.l2i, 1) := by decide +kernel
theorem dX2_adjusted_17 : decode cX2_adjusted 17 = .ok (.ireturn, 1) := by decide +kernel
set_option maxRecDepth 20000 in
theorem ggX2_fees_X2_requirePicture : GoodIn wsX2_fees wsX2_requirePicture := goodIn_ca (goodIn_r _ [5, 6, 7] (by decide +kernel) (by decide +kernel)) (goodIn_sub (fun _ h => List.mem_cons_of_mem _ (List.mem_append_right _ h)) (by decide +kernel))
set_option maxRecDepth 20000 in
theorem gX2_fees_X2_requirePicture : GoodIn wsX2_fees (va_wsS RX2 34 yX2_requirePicture wsX2_requirePicture) := goodIn_app (goodIn_of _ (by decide +kernel)) ggX2_fees_X2_requirePicture
set_option maxRecDepth 20000 in
theorem ggX2_fees_X2_drawBooks : GoodIn wsX2_fees wsX2_drawBooks := goodIn_r _ [11, 12, 13, 14, 15, 16, 17, 18, 19, 20, 21, 22, 23, 24, 25, 26, 27, 28, 29, 30, 31, 32, 33, 34, 35, 36, 37, 38, 39, 4, 40, 41, 42, 43, 44, 45, 46, 47, 48, 49, 50, 51, 52, 53, 54, 55, 56, 57, 58, 59, 60, 61, 62, 63, 64, 65, 66, 67, 68, 69, 70, 71, 72, 73, 74, 75, 76, 77, 78, 79, 80, 81, 82, 83, 84, 85, 86, 87, 88, 89, 90, 91, 92, 93, 94, 95, 96, 97, 98, 99, 100, 101, 102, 103, 104, 105, 106, 126, 127, 128, 129, 130, 111, 112, 113, 114, 115, 116, 117, 118, 119, 120, 121, 122, 123, 124, 125, 131, 132, 133, 134, 135, 136, 137, 138, 139, 140] (by decide +kernel) (by decide +kernel)
set_option maxRecDepth 20000 in
theorem gX2_fees_X2_drawBooks : GoodIn wsX2_fees (wsV RX2 125 RX2 yX2_drawBooks wsX2_drawBooks) := goodIn_app (goodIn_of _ (by decide +kernel)) ggX2_fees_X2_drawBooks
set_option maxRecDepth 20000 in
theorem ggX2_fees_X2_pictureOf : GoodIn wsX2_fees wsX2_pictureOf := goodIn_r _ [110, 12, 13, 126, 127, 128, 129, 130] (by decide +kernel) (by decide +kernel)
set_option maxRecDepth 20000 in
theorem gX2_fees_X2_pictureOf : GoodIn wsX2_fees (wsV RX2 42 RX2 yX2_pictureOf wsX2_pictureOf) := goodIn_app (goodIn_of _ (by decide +kernel)) ggX2_fees_X2_pictureOf
theorem dX2_fees_0 : decode cX2_fees 0 = .ok (.iload_n 1, 1) := by decide +kernel
theorem dX2_fees_1 : decode cX2_fees 1 = .ok (.invokestatic 34, 3) := by decide +kernel
theorem dX2_fees_4 : decode cX2_fees 4 = .ok (.aload_n 0, 1) := by decide +kernel
theorem dX2_fees_5 : decode cX2_fees 5 = .ok (.invokevirtual 125, 3) := by decide +kernel
theorem dX2_fees_8 : decode cX2_fees 8 = .ok (.aload_n 0, 1) := by decide +kernel
theorem dX2_fees_9 : decode cX2_fees 9 = .ok (.iload_n 1, 1) := by decide +kernel
theorem dX2_fees_10 : decode cX2_fees 10 = .ok (.invokevirtual 42, 3) := by decide +kernel
theorem dX2_fees_13 : decode cX2_fees 13 = .ok (.getfield 134, 3) := by decide +kernel
theorem dX2_fees_16 : decode cX2_fees 16 = .ok (.l2i, 1) := by decide +kernel
theorem dX2_fees_17 : decode cX2_fees 17 = .ok (.ireturn, 1) := by decide +kernel
set_option maxRecDepth 20000 in
theorem ggX2_balance_X2_requirePicture : GoodIn wsX2_balance wsX2_requirePicture := goodIn_ca (goodIn_r _ [6, 7, 8] (by decide +kernel) (by decide +kernel)) (goodIn_sub (fun _ h => List.mem_cons_of_mem _ (List.mem_append_left _ (List.mem_append_right _ h))) (by decide +kernel))
set_option maxRecDepth 20000 in
theorem gX2_balance_X2_requirePicture : GoodIn wsX2_balance (va_wsS RX2 34 yX2_requirePicture wsX2_requirePicture) := goodIn_app (goodIn_of _ (by decide +kernel)) ggX2_balance_X2_requirePicture
set_option maxRecDepth 20000 in
theorem ggX2_balance_X2_requireRange : GoodIn wsX2_balance wsX2_requireRange := goodIn_ca (goodIn_r _ [11, 12, 13] (by decide +kernel) (by decide +kernel)) (goodIn_sub (fun _ h => List.mem_cons_of_mem _ (List.mem_append_right _ h)) (by decide +kernel))
set_option maxRecDepth 20000 in
theorem gX2_balance_X2_requireRange : GoodIn wsX2_balance (va_wsS RX2 38 yX2_requireRange wsX2_requireRange) := goodIn_app (goodIn_of _ (by decide +kernel)) ggX2_balance_X2_requireRange
set_option maxRecDepth 20000 in
theorem ggX2_balance_X2_drawBooks : GoodIn wsX2_balance wsX2_drawBooks := goodIn_r _ [17, 18, 19, 1, 20, 21, 22, 23, 24, 25, 26, 27, 28, 29, 30, 31, 32, 33, 34, 35, 36, 37, 38, 39, 40, 41, 42, 43, 44, 5, 45, 46, 47, 48, 49, 50, 51, 52, 53, 54, 55, 56, 57, 58, 59, 60, 61, 62, 63, 64, 65, 66, 67, 68, 69, 70, 71, 72, 73, 74, 75, 76, 77, 78, 79, 80, 81, 82, 83, 84, 85, 86, 87, 88, 89, 90, 91, 92, 93, 94, 95, 96, 97, 98, 99, 100, 101, 102, 103, 104, 105, 106, 107, 108, 109, 110, 111, 116, 117, 118, 119, 120, 121, 122, 123, 124, 125, 126, 127, 128, 129, 130, 131, 132, 133, 134, 135, 136, 137, 138, 139, 140, 141, 142, 143, 144, 145] (by decide +kernel) (by decide +kernel)
set_option maxRecDepth 20000 in
theorem gX2_balance_X2_drawBooks : GoodIn wsX2_balance (wsV RX2 125 RX2 yX2_drawBooks wsX2_drawBooks) := goodIn_app (goodIn_of _ (by decide +kernel)) ggX2_balance_X2_drawBooks
set_option maxRecDepth 20000 in
theorem ggX2_balance_X2_pictureOf : GoodIn wsX2_balance wsX2_pictureOf := goodIn_r _ [115, 18, 19, 116, 117, 118, 119, 120] (by decide +kernel) (by decide +kernel)
set_option maxRecDepth 20000 in
theorem gX2_balance_X2_pictureOf : GoodIn wsX2_balance (wsV RX2 42 RX2 yX2_pictureOf wsX2_pictureOf) := goodIn_app (goodIn_of _ (by decide +kernel)) ggX2_balance_X2_pictureOf
theorem dX2_balance_0 : decode cX2_balance 0 = .ok (.iload_n 1, 1) := by decide +kernel
theorem dX2_balance_1 : decode cX2_balance 1 = .ok (.invokestatic 34, 3) := by decide +kernel
theorem dX2_balance_4 : decode cX2_balance 4 = .ok (.iload_n 2, 1) := by decide +kernel
theorem dX2_balance_5 : decode cX2_balance 5 = .ok (.iconst 0, 1) := by decide +kernel
theorem dX2_balance_6 : decode cX2_balance 6 = .ok (.aload_n 0, 1) := by decide +kernel
theorem dX2_balance_7 : decode cX2_balance 7 = .ok (.getfield 30, 3) := by decide +kernel
theorem dX2_balance_10 : decode cX2_balance 10 = .ok (.invokestatic 38, 3) := by decide +kernel
theorem dX2_balance_13 : decode cX2_balance 13 = .ok (.aload_n 0, 1) := by decide +kernel
theorem dX2_balance_14 : decode cX2_balance 14 = .ok (.invokevirtual 125, 3) := by decide +kernel
theorem dX2_balance_17 : decode cX2_balance 17 = .ok (.aload_n 0, 1) := by decide +kernel
theorem dX2_balance_18 : decode cX2_balance 18 = .ok (.iload_n 1, 1) := by decide +kernel
theorem dX2_balance_19 : decode cX2_balance 19 = .ok (.invokevirtual 42, 3) := by decide +kernel
theorem dX2_balance_22 : decode cX2_balance 22 = .ok (.getfield 137, 3) := by decide +kernel
theorem dX2_balance_25 : decode cX2_balance 25 = .ok (.iload_n 2, 1) := by decide +kernel
theorem dX2_balance_26 : decode cX2_balance 26 = .ok (.laload, 1) := by decide +kernel
theorem dX2_balance_27 : decode cX2_balance 27 = .ok (.l2i, 1) := by decide +kernel
theorem dX2_balance_28 : decode cX2_balance 28 = .ok (.ireturn, 1) := by decide +kernel
set_option maxRecDepth 20000 in
theorem ggX2_profit_X2_requirePicture : GoodIn wsX2_profit wsX2_requirePicture := goodIn_ca (goodIn_r _ [6, 7, 8] (by decide +kernel) (by decide +kernel)) (goodIn_sub (fun _ h => List.mem_cons_of_mem _ (List.mem_append_left _ (List.mem_append_right _ h))) (by decide +kernel))
set_option maxRecDepth 20000 in
theorem gX2_profit_X2_requirePicture : GoodIn wsX2_profit (va_wsS RX2 34 yX2_requirePicture wsX2_requirePicture) := goodIn_app (goodIn_of _ (by decide +kernel)) ggX2_profit_X2_requirePicture
set_option maxRecDepth 20000 in
theorem ggX2_profit_X2_requireRange : GoodIn wsX2_profit wsX2_requireRange := goodIn_ca (goodIn_r _ [11, 12, 13] (by decide +kernel) (by decide +kernel)) (goodIn_sub (fun _ h => List.mem_cons_of_mem _ (List.mem_append_right _ h)) (by decide +kernel))
set_option maxRecDepth 20000 in
theorem gX2_profit_X2_requireRange : GoodIn wsX2_profit (va_wsS RX2 38 yX2_requireRange wsX2_requireRange) := goodIn_app (goodIn_of _ (by decide +kernel)) ggX2_profit_X2_requireRange
set_option maxRecDepth 20000 in
theorem ggX2_profit_X2_drawBooks : GoodIn wsX2_profit wsX2_drawBooks := goodIn_r _ [17, 18, 19, 1, 20, 21, 22, 23, 24, 25, 26, 27, 28, 29, 30, 31, 32, 33, 34, 35, 36, 37, 38, 39, 40, 41, 42, 43, 44, 5, 45, 46, 47, 48, 49, 50, 51, 52, 53, 54, 55, 56, 57, 58, 59, 60, 61, 62, 63, 64, 65, 66, 67, 68, 69, 70, 71, 72, 73, 74, 75, 76, 77, 78, 79, 80, 81, 82, 83, 84, 85, 86, 87, 88, 89, 90, 91, 92, 93, 94, 95, 96, 97, 98, 99, 100, 101, 102, 103, 104, 105, 106, 107, 108, 109, 110, 111, 116, 117, 118, 119, 120, 121, 122, 123, 124, 125, 126, 127, 128, 129, 130, 131, 132, 133, 134, 135, 136, 137, 138, 139, 140, 141, 142, 143, 144, 145] (by decide +kernel) (by decide +kernel)
set_option maxRecDepth 20000 in
theorem gX2_profit_X2_drawBooks : GoodIn wsX2_profit (wsV RX2 125 RX2 yX2_drawBooks wsX2_drawBooks) := goodIn_app (goodIn_of _ (by decide +kernel)) ggX2_profit_X2_drawBooks
set_option maxRecDepth 20000 in
theorem ggX2_profit_X2_pictureOf : GoodIn wsX2_profit wsX2_pictureOf := goodIn_r _ [115, 18, 19, 116, 117, 118, 119, 120] (by decide +kernel) (by decide +kernel)
set_option maxRecDepth 20000 in
theorem gX2_profit_X2_pictureOf : GoodIn wsX2_profit (wsV RX2 42 RX2 yX2_pictureOf wsX2_pictureOf) := goodIn_app (goodIn_of _ (by decide +kernel)) ggX2_profit_X2_pictureOf
theorem dX2_profit_0 : decode cX2_profit 0 = .ok (.iload_n 1, 1) := by decide +kernel
theorem dX2_profit_1 : decode cX2_profit 1 = .ok (.invokestatic 34, 3) := by decide +kernel
theorem dX2_profit_4 : decode cX2_profit 4 = .ok (.iload_n 2, 1) := by decide +kernel
theorem dX2_profit_5 : decode cX2_profit 5 = .ok (.iconst 0, 1) := by decide +kernel
theorem dX2_profit_6 : decode cX2_profit 6 = .ok (.aload_n 0, 1) := by decide +kernel
theorem dX2_profit_7 : decode cX2_profit 7 = .ok (.getfield 30, 3) := by decide +kernel
theorem dX2_profit_10 : decode cX2_profit 10 = .ok (.invokestatic 38, 3) := by decide +kernel
theorem dX2_profit_13 : decode cX2_profit 13 = .ok (.aload_n 0, 1) := by decide +kernel
theorem dX2_profit_14 : decode cX2_profit 14 = .ok (.invokevirtual 125, 3) := by decide +kernel
theorem dX2_profit_17 : decode cX2_profit 17 = .ok (.aload_n 0, 1) := by decide +kernel
theorem dX2_profit_18 : decode cX2_profit 18 = .ok (.iload_n 1, 1) := by decide +kernel
theorem dX2_profit_19 : decode cX2_profit 19 = .ok (.invokevirtual 42, 3) := by decide +kernel
theorem dX2_profit_22 : decode cX2_profit 22 = .ok (.getfield 141, 3) := by decide +kernel
theorem dX2_profit_25 : decode cX2_profit 25 = .ok (.iload_n 2, 1) := by decide +kernel
theorem dX2_profit_26 : decode cX2_profit 26 = .ok (.laload, 1) := by decide +kernel
theorem dX2_profit_27 : decode cX2_profit 27 = .ok (.l2i, 1) := by decide +kernel
theorem dX2_profit_28 : decode cX2_profit 28 = .ok (.ireturn, 1) := by decide +kernel
set_option maxRecDepth 20000 in
theorem ggX2_pool_X2_requirePicture : GoodIn wsX2_pool wsX2_requirePicture := goodIn_ca (goodIn_r _ [4, 5, 6] (by decide +kernel) (by decide +kernel)) (goodIn_sub (fun _ h => List.mem_cons_of_mem _ (List.mem_append_right _ h)) (by decide +kernel))
set_option maxRecDepth 20000 in
theorem gX2_pool_X2_requirePicture : GoodIn wsX2_pool (va_wsS RX2 34 yX2_requirePicture wsX2_requirePicture) := goodIn_app (goodIn_of _ (by decide +kernel)) ggX2_pool_X2_requirePicture
set_option maxRecDepth 20000 in
theorem ggX2_pool_X2_drawBooks : GoodIn wsX2_pool wsX2_drawBooks := goodIn_r _ [10, 11, 12, 13, 14, 15, 16, 17, 18, 19, 20, 21, 22, 23, 24, 25, 26, 27, 28, 29, 30, 31, 32, 33, 34, 35, 36, 37, 38, 3, 39, 40, 41, 42, 43, 44, 45, 46, 47, 48, 49, 50, 51, 52, 53, 54, 55, 56, 57, 58, 59, 60, 61, 62, 63, 64, 65, 66, 67, 68, 69, 70, 71, 72, 73, 74, 75, 76, 77, 78, 79, 80, 81, 82, 83, 84, 85, 86, 87, 88, 89, 90, 91, 92, 93, 94, 95, 96, 97, 98, 99, 100, 101, 102, 103, 104, 105, 119, 120, 121, 122, 123, 124, 125, 126, 127, 128, 129, 130, 131, 132, 133, 134, 135, 136, 137, 138, 139, 140, 141, 142, 143, 144, 145, 146, 147, 148] (by decide +kernel) (by decide +kernel)
set_option maxRecDepth 20000 in
theorem gX2_pool_X2_drawBooks : GoodIn wsX2_pool (wsV RX2 125 RX2 yX2_drawBooks wsX2_drawBooks) := goodIn_app (goodIn_of _ (by decide +kernel)) ggX2_pool_X2_drawBooks
set_option maxRecDepth 20000 in
theorem ggX2_pool_X2_pictureOf : GoodIn wsX2_pool wsX2_pictureOf := goodIn_r _ [109, 11, 12, 119, 120, 121, 122, 123] (by decide +kernel) (by decide +kernel)
set_option maxRecDepth 20000 in
theorem gX2_pool_X2_pictureOf : GoodIn wsX2_pool (wsV RX2 42 RX2 yX2_pictureOf wsX2_pictureOf) := goodIn_app (goodIn_of _ (by decide +kernel)) ggX2_pool_X2_pictureOf
set_option maxRecDepth 20000 in
theorem ggX2_pool_X0_poolDrawn : GoodIn wsX2_pool wsX0_poolDrawn := goodIn_r _ [113, 50, 53, 54, 55, 56, 57, 58, 114, 115, 116, 18, 117, 25, 51, 52, 118, 98, 83, 84, 85, 59, 60, 61, 62, 63, 64, 65, 66, 67, 68, 69, 70, 71, 72, 73, 74, 75, 124, 125, 126, 127, 128, 129, 130, 131, 132, 133, 134, 135, 136, 137, 138, 146, 147, 148, 139, 140, 141, 142, 143, 144, 145] (by decide +kernel) (by decide +kernel)
set_option maxRecDepth 20000 in
theorem gX2_pool_X0_poolDrawn : GoodIn wsX2_pool (wsV RX2 144 RX0 yX0_poolDrawn wsX0_poolDrawn) := goodIn_app (goodIn_of _ (by decide +kernel)) ggX2_pool_X0_poolDrawn
theorem dX2_pool_0 : decode cX2_pool 0 = .ok (.iload_n 1, 1) := by decide +kernel
theorem dX2_pool_1 : decode cX2_pool 1 = .ok (.invokestatic 34, 3) := by decide +kernel
theorem dX2_pool_4 : decode cX2_pool 4 = .ok (.aload_n 0, 1) := by decide +kernel
theorem dX2_pool_5 : decode cX2_pool 5 = .ok (.invokevirtual 125, 3) := by decide +kernel
theorem dX2_pool_8 : decode cX2_pool 8 = .ok (.aload_n 0, 1) := by decide +kernel
theorem dX2_pool_9 : decode cX2_pool 9 = .ok (.iload_n 1, 1) := by decide +kernel
theorem dX2_pool_10 : decode cX2_pool 10 = .ok (.invokevirtual 42, 3) := by decide +kernel
theorem dX2_pool_13 : decode cX2_pool 13 = .ok (.invokevirtual 144, 3) := by decide +kernel
theorem dX2_pool_16 : decode cX2_pool 16 = .ok (.l2i, 1) := by decide +kernel
theorem dX2_pool_17 : decode cX2_pool 17 = .ok (.ireturn, 1) := by decide +kernel
set_option maxRecDepth 20000 in
theorem ggX2_sum_X2_requireSharer : GoodIn wsX2_sum wsX2_requireSharer := goodIn_ca (goodIn_r _ [7, 8, 9, 1, 10, 11, 12, 13, 14, 15, 130, 131, 132, 133, 134, 135, 136, 137] (by decide +kernel) (by decide +kernel)) (goodIn_sub (fun _ h => List.mem_cons_of_mem _ (List.mem_append_right _ h)) (by decide +kernel))
set_option maxRecDepth 20000 in
theorem gX2_sum_X2_requireSharer : GoodIn wsX2_sum (wsV RX2 108 RX2 yX2_requireSharer wsX2_requireSharer) := goodIn_app (goodIn_of _ (by decide +kernel)) ggX2_sum_X2_requireSharer
set_option maxRecDepth 20000 in
theorem ggX2_sum_Jx4a65c_get_915e3 : GoodIn wsX2_sum wsJx4a65c_get_915e3 := goodIn_r _ [19, 15, 20, 21, 22, 23, 24, 25, 26, 27, 28, 29, 30, 13, 31, 32, 135, 136, 137] (by decide +kernel) (by decide +kernel)
set_option maxRecDepth 20000 in
theorem gX2_sum_Jx4a65c_get_915e3 : GoodIn wsX2_sum (wsV RX2 111 RJx4a65c yJx4a65c_get_915e3 wsJx4a65c_get_915e3) := goodIn_app (goodIn_of _ (by decide +kernel)) ggX2_sum_Jx4a65c_get_915e3
set_option maxRecDepth 20000 in
theorem ggX2_sum_X2_drawnSum : GoodIn wsX2_sum wsX2_drawnSum := goodIn_r _ [36, 37, 38, 39, 40, 6, 41, 42, 43, 44, 45, 46, 47, 48, 49, 50, 51, 52, 53, 54, 55, 56, 57, 58, 59, 60, 61, 62, 63, 64, 65, 66, 67, 68, 69, 70, 71, 72, 73, 74, 75, 76, 77, 78, 79, 80, 81, 82, 83, 84, 11, 12, 13, 14, 15, 85, 17, 18, 19, 20, 21, 22, 23, 24, 25, 26, 27, 28, 29, 30, 31, 32, 86, 87, 88, 89, 90, 91, 92, 93, 94, 95, 96, 97, 98, 99, 100, 101, 102, 103, 104, 105, 106, 107, 108, 109, 110, 111, 112, 113, 114, 115, 116, 117, 118, 119, 120, 121, 122, 123, 124, 125, 126, 127, 128, 129, 138, 139, 140, 141, 142, 143, 144, 130, 131, 132, 133, 134, 145, 146, 147, 148, 149, 150, 151, 152, 153, 154, 155, 156, 157, 158, 159, 135, 136, 137] (by decide +kernel) (by decide +kernel)
set_option maxRecDepth 20000 in
theorem gX2_sum_X2_drawnSum : GoodIn wsX2_sum (wsV RX2 115 RX2 yX2_drawnSum wsX2_drawnSum) := goodIn_app (goodIn_of _ (by decide +kernel)) ggX2_sum_X2_drawnSum
theorem dX2_sum_0 : decode cX2_sum 0 = .ok (.aload_n 0, 1) := by decide +kernel
theorem dX2_sum_1 : decode cX2_sum 1 = .ok (.iload_n 1, 1) := by decide +kernel
theorem dX2_sum_2 : decode cX2_sum 2 = .ok (.invokevirtual 108, 3) := by decide +kernel
theorem dX2_sum_5 : decode cX2_sum 5 = .ok (.aload_n 0, 1) := by decide +kernel
theorem dX2_sum_6 : decode cX2_sum 6 = .ok (.aload_n 0, 1) := by decide +kernel
theorem dX2_sum_7 : decode cX2_sum 7 = .ok (.getfield 22, 3) := by decide +kernel
theorem dX2_sum_10 : decode cX2_sum 10 = .ok (.iload_n 1, 1) := by decide +kernel
theorem dX2_sum_11 : decode cX2_sum 11 = .ok (.invokevirtual 111, 3) := by decide +kernel
theorem dX2_sum_14 : decode cX2_sum 14 = .ok (.checkcast 73, 3) := by decide +kernel
theorem dX2_sum_17 : decode cX2_sum 17 = .ok (.invokevirtual 115, 3) := by decide +kernel
theorem dX2_sum_20 : decode cX2_sum 20 = .ok (.l2i, 1) := by decide +kernel
theorem dX2_sum_21 : decode cX2_sum 21 = .ok (.ireturn, 1) := by decide +kernel
set_option maxRecDepth 20000 in
theorem ggX2_paid_X2_requireSharer : GoodIn wsX2_paid wsX2_requireSharer := goodIn_ca (goodIn_r _ [8, 9, 10, 1, 11, 12, 13, 14, 15, 16, 34, 35, 36, 37, 38, 46, 47, 48] (by decide +kernel) (by decide +kernel)) (goodIn_sub (fun _ h => List.mem_cons_of_mem _ (List.mem_append_right _ h)) (by decide +kernel))
set_option maxRecDepth 20000 in
theorem gX2_paid_X2_requireSharer : GoodIn wsX2_paid (wsV RX2 108 RX2 yX2_requireSharer wsX2_requireSharer) := goodIn_app (goodIn_of _ (by decide +kernel)) ggX2_paid_X2_requireSharer
set_option maxRecDepth 20000 in
theorem ggX2_paid_Jx4a65c_get_915e3 : GoodIn wsX2_paid wsJx4a65c_get_915e3 := goodIn_r _ [20, 16, 21, 22, 23, 24, 25, 26, 27, 28, 29, 30, 31, 14, 32, 33, 46, 47, 48] (by decide +kernel) (by decide +kernel)
set_option maxRecDepth 20000 in
theorem gX2_paid_Jx4a65c_get_915e3 : GoodIn wsX2_paid (wsV RX2 111 RJx4a65c yJx4a65c_get_915e3 wsJx4a65c_get_915e3) := goodIn_app (goodIn_of _ (by decide +kernel)) ggX2_paid_Jx4a65c_get_915e3
theorem dX2_paid_0 : decode cX2_paid 0 = .ok (.aload_n 0, 1) := by decide +kernel
theorem dX2_paid_1 : decode cX2_paid 1 = .ok (.iload_n 1, 1) := by decide +kernel
theorem dX2_paid_2 : decode cX2_paid 2 = .ok (.invokevirtual 108, 3) := by decide +kernel
theorem dX2_paid_5 : decode cX2_paid 5 = .ok (.aload_n 0, 1) := by decide +kernel
theorem dX2_paid_6 : decode cX2_paid 6 = .ok (.getfield 22, 3) := by decide +kernel
theorem dX2_paid_9 : decode cX2_paid 9 = .ok (.iload_n 1, 1) := by decide +kernel
theorem dX2_paid_10 : decode cX2_paid 10 = .ok (.invokevirtual 111, 3) := by decide +kernel
theorem dX2_paid_13 : decode cX2_paid 13 = .ok (.checkcast 73, 3) := by decide +kernel
theorem dX2_paid_16 : decode cX2_paid 16 = .ok (.getfield 119, 3) := by decide +kernel
theorem dX2_paid_19 : decode cX2_paid 19 = .ok (.l2i, 1) := by decide +kernel
theorem dX2_paid_20 : decode cX2_paid 20 = .ok (.ireturn, 1) := by decide +kernel
set_option maxRecDepth 20000 in
theorem ggX2_owed_X2_requireSharer : GoodIn wsX2_owed wsX2_requireSharer := goodIn_ca (goodIn_r _ [8, 9, 10, 1, 11, 12, 13, 14, 15, 16, 131, 132, 133, 134, 135, 143, 144, 145] (by decide +kernel) (by decide +kernel)) (goodIn_sub (fun _ h => List.mem_cons_of_mem _ (List.mem_append_right _ h)) (by decide +kernel))
set_option maxRecDepth 20000 in
theorem gX2_owed_X2_requireSharer : GoodIn wsX2_owed (wsV RX2 108 RX2 yX2_requireSharer wsX2_requireSharer) := goodIn_app (goodIn_of _ (by decide +kernel)) ggX2_owed_X2_requireSharer
set_option maxRecDepth 20000 in
theorem ggX2_owed_Jx4a65c_get_915e3 : GoodIn wsX2_owed wsJx4a65c_get_915e3 := goodIn_r _ [20, 16, 21, 22, 23, 24, 25, 26, 27, 28, 29, 30, 31, 14, 32, 33, 143, 144, 145] (by decide +kernel) (by decide +kernel)
set_option maxRecDepth 20000 in
theorem gX2_owed_Jx4a65c_get_915e3 : GoodIn wsX2_owed (wsV RX2 111 RJx4a65c yJx4a65c_get_915e3 wsJx4a65c_get_915e3) := goodIn_app (goodIn_of _ (by decide +kernel)) ggX2_owed_Jx4a65c_get_915e3
set_option maxRecDepth 20000 in
theorem ggX2_owed_X2_drawnSum : GoodIn wsX2_owed wsX2_drawnSum := goodIn_r _ [37, 38, 39, 40, 41, 7, 42, 43, 44, 45, 46, 47, 48, 49, 50, 51, 52, 53, 54, 55, 56, 57, 58, 59, 60, 61, 62, 63, 64, 65, 66, 67, 68, 69, 70, 71, 72, 73, 74, 75, 76, 77, 78, 79, 80, 81, 82, 83, 84, 85, 12, 13, 14, 15, 16, 86, 18, 19, 20, 21, 22, 23, 24, 25, 26, 27, 28, 29, 30, 31, 32, 33, 87, 88, 89, 90, 91, 92, 93, 94, 95, 96, 97, 98, 99, 100, 101, 102, 103, 104, 105, 106, 107, 108, 109, 110, 111, 112, 113, 114, 115, 116, 117, 118, 119, 120, 121, 122, 123, 124, 125, 126, 127, 128, 129, 130, 136, 137, 138, 139, 140, 141, 142, 131, 132, 133, 134, 135, 146, 147, 148, 149, 150, 151, 152, 153, 154, 155, 156, 157, 158, 159, 160, 143, 144, 145] (by decide +kernel) (by decide +kernel)
set_option maxRecDepth 20000 in
theorem gX2_owed_X2_drawnSum : GoodIn wsX2_owed (wsV RX2 115 RX2 yX2_drawnSum wsX2_drawnSum) := goodIn_app (goodIn_of _ (by decide +kernel)) ggX2_owed_X2_drawnSum
theorem dX2_owed_0 : decode cX2_owed 0 = .ok (.aload_n 0, 1) := by decide +kernel
theorem dX2_owed_1 : decode cX2_owed 1 = .ok (.iload_n 1, 1) := by decide +kernel
theorem dX2_owed_2 : decode cX2_owed 2 = .ok (.invokevirtual 108, 3) := by decide +kernel
theorem dX2_owed_5 : decode cX2_owed 5 = .ok (.aload_n 0, 1) := by decide +kernel
theorem dX2_owed_6 : decode cX2_owed 6 = .ok (.getfield 22, 3) := by decide +kernel
theorem dX2_owed_9 : decode cX2_owed 9 = .ok (.iload_n 1, 1) := by decide +kernel
theorem dX2_owed_10 : decode cX2_owed 10 = .ok (.invokevirtual 111, 3) := by decide +kernel
theorem dX2_owed_13 : decode cX2_owed 13 = .ok (.checkcast 73, 3) := by decide +kernel
theorem dX2_owed_16 : decode cX2_owed 16 = .ok (.astore_n 2, 1) := by decide +kernel
theorem dX2_owed_17 : decode cX2_owed 17 = .ok (.aload_n 0, 1) := by decide +kernel
theorem dX2_owed_18 : decode cX2_owed 18 = .ok (.aload_n 2, 1) := by decide +kernel
theorem dX2_owed_19 : decode cX2_owed 19 = .ok (.invokevirtual 115, 3) := by decide +kernel
theorem dX2_owed_22 : decode cX2_owed 22 = .ok (.aload_n 2, 1) := by decide +kernel
theorem dX2_owed_23 : decode cX2_owed 23 = .ok (.getfield 119, 3) := by decide +kernel
theorem dX2_owed_26 : decode cX2_owed 26 = .ok (.lsub, 1) := by decide +kernel
theorem dX2_owed_27 : decode cX2_owed 27 = .ok (.l2i, 1) := by decide +kernel
theorem dX2_owed_28 : decode cX2_owed 28 = .ok (.ireturn, 1) := by decide +kernel
theorem dX2_requirePicture_0 : decode cX2_requirePicture 0 = .ok (.iload_n 0, 1) := by decide +kernel
theorem dX2_requirePicture_1 : decode cX2_requirePicture 1 = .ok (.ifCond .lt 8, 3) := by decide +kernel
theorem dX2_requirePicture_4 : decode cX2_requirePicture 4 = .ok (.iload_n 0, 1) := by decide +kernel
theorem dX2_requirePicture_5 : decode cX2_requirePicture 5 = .ok (.iconst 2, 1) := by decide +kernel
theorem dX2_requirePicture_6 : decode cX2_requirePicture 6 = .ok (.if_icmp .lt 13, 3) := by decide +kernel
theorem dX2_requirePicture_9 : decode cX2_requirePicture 9 = .ok (.new 148, 3) := by decide +kernel
theorem dX2_requirePicture_12 : decode cX2_requirePicture 12 = .ok (.dup, 1) := by decide +kernel
theorem dX2_requirePicture_13 : decode cX2_requirePicture 13 = .ok (.ldc 150, 2) := by decide +kernel
theorem dX2_requirePicture_15 : decode cX2_requirePicture 15 = .ok (.invokespecial 152, 3) := by decide +kernel
theorem dX2_requirePicture_18 : decode cX2_requirePicture 18 = .ok (.athrow, 1) := by decide +kernel
theorem dX2_requirePicture_19 : decode cX2_requirePicture 19 = .ok (.return_, 1) := by decide +kernel
theorem dX2_requireWindow_0 : decode cX2_requireWindow 0 = .ok (.iload_n 0, 1) := by decide +kernel
theorem dX2_requireWindow_1 : decode cX2_requireWindow 1 = .ok (.ifCond .lt 8, 3) := by decide +kernel
theorem dX2_requireWindow_4 : decode cX2_requireWindow 4 = .ok (.iload_n 0, 1) := by decide +kernel
theorem dX2_requireWindow_5 : decode cX2_requireWindow 5 = .ok (.iconst 4, 1) := by decide +kernel
theorem dX2_requireWindow_6 : decode cX2_requireWindow 6 = .ok (.if_icmp .lt 13, 3) := by decide +kernel
theorem dX2_requireWindow_9 : decode cX2_requireWindow 9 = .ok (.new 148, 3) := by decide +kernel
theorem dX2_requireWindow_12 : decode cX2_requireWindow 12 = .ok (.dup, 1) := by decide +kernel
theorem dX2_requireWindow_13 : decode cX2_requireWindow 13 = .ok (.ldc 153, 2) := by decide +kernel
theorem dX2_requireWindow_15 : decode cX2_requireWindow 15 = .ok (.invokespecial 152, 3) := by decide +kernel
theorem dX2_requireWindow_18 : decode cX2_requireWindow 18 = .ok (.athrow, 1) := by decide +kernel
theorem dX2_requireWindow_19 : decode cX2_requireWindow 19 = .ok (.return_, 1) := by decide +kernel
theorem dX2_requireRange_0 : decode cX2_requireRange 0 = .ok (.iload_n 0, 1) := by decide +kernel
theorem dX2_requireRange_1 : decode cX2_requireRange 1 = .ok (.iload_n 1, 1) := by decide +kernel
theorem dX2_requireRange_2 : decode cX2_requireRange 2 = .ok (.if_icmp .lt 8, 3) := by decide +kernel
theorem dX2_requireRange_5 : decode cX2_requireRange 5 = .ok (.iload_n 0, 1) := by decide +kernel
theorem dX2_requireRange_6 : decode cX2_requireRange 6 = .ok (.iload_n 2, 1) := by decide +kernel
theorem dX2_requireRange_7 : decode cX2_requireRange 7 = .ok (.if_icmp .le 13, 3) := by decide +kernel
theorem dX2_requireRange_10 : decode cX2_requireRange 10 = .ok (.new 155, 3) := by decide +kernel
theorem dX2_requireRange_13 : decode cX2_requireRange 13 = .ok (.dup, 1) := by decide +kernel
theorem dX2_requireRange_14 : decode cX2_requireRange 14 = .ok (.ldc 157, 2) := by decide +kernel
theorem dX2_requireRange_16 : decode cX2_requireRange 16 = .ok (.invokespecial 159, 3) := by decide +kernel
theorem dX2_requireRange_19 : decode cX2_requireRange 19 = .ok (.athrow, 1) := by decide +kernel
theorem dX2_requireRange_20 : decode cX2_requireRange 20 = .ok (.return_, 1) := by decide +kernel
set_option maxRecDepth 20000 in
theorem ggX2_requireSharer_Jx4a65c_size_8abf5 : GoodIn wsX2_requireSharer wsJx4a65c_size_8abf5 := goodIn_r _ [8, 9, 15, 16, 17] (by decide +kernel) (by decide +kernel)
set_option maxRecDepth 20000 in
theorem gX2_requireSharer_Jx4a65c_size_8abf5 : GoodIn wsX2_requireSharer (wsV RX2 78 RJx4a65c yJx4a65c_size_8abf5 wsJx4a65c_size_8abf5) := goodIn_app (goodIn_of _ (by decide +kernel)) ggX2_requireSharer_Jx4a65c_size_8abf5
theorem dX2_requireSharer_0 : decode cX2_requireSharer 0 = .ok (.iload_n 1, 1) := by decide +kernel
theorem dX2_requireSharer_1 : decode cX2_requireSharer 1 = .ok (.ifCond .lt 14, 3) := by decide +kernel
theorem dX2_requireSharer_4 : decode cX2_requireSharer 4 = .ok (.iload_n 1, 1) := by decide +kernel
theorem dX2_requireSharer_5 : decode cX2_requireSharer 5 = .ok (.aload_n 0, 1) := by decide +kernel
theorem dX2_requireSharer_6 : decode cX2_requireSharer 6 = .ok (.getfield 22, 3) := by decide +kernel
theorem dX2_requireSharer_9 : decode cX2_requireSharer 9 = .ok (.invokevirtual 78, 3) := by decide +kernel
theorem dX2_requireSharer_12 : decode cX2_requireSharer 12 = .ok (.if_icmp .lt 13, 3) := by decide +kernel
theorem dX2_requireSharer_15 : decode cX2_requireSharer 15 = .ok (.new 148, 3) := by decide +kernel
theorem dX2_requireSharer_18 : decode cX2_requireSharer 18 = .ok (.dup, 1) := by decide +kernel
theorem dX2_requireSharer_19 : decode cX2_requireSharer 19 = .ok (.ldc 160, 2) := by decide +kernel
theorem dX2_requireSharer_21 : decode cX2_requireSharer 21 = .ok (.invokespecial 152, 3) := by decide +kernel
theorem dX2_requireSharer_24 : decode cX2_requireSharer 24 = .ok (.athrow, 1) := by decide +kernel
theorem dX2_requireSharer_25 : decode cX2_requireSharer 25 = .ok (.return_, 1) := by decide +kernel
set_option maxRecDepth 20000 in
theorem ggX2_requireRoom_Jx4a65c_size_8abf5 : GoodIn wsX2_requireRoom wsJx4a65c_size_8abf5 := goodIn_r _ [8, 9, 47, 48, 49] (by decide +kernel) (by decide +kernel)
set_option maxRecDepth 20000 in
theorem gX2_requireRoom_Jx4a65c_size_8abf5 : GoodIn wsX2_requireRoom (wsV RX2 78 RJx4a65c yJx4a65c_size_8abf5 wsJx4a65c_size_8abf5) := goodIn_app (goodIn_of _ (by decide +kernel)) ggX2_requireRoom_Jx4a65c_size_8abf5
set_option maxRecDepth 20000 in
theorem ggX2_requireRoom_X0_netRatesGiven : GoodIn wsX2_requireRoom wsX0_netRatesGiven := goodIn_r _ [14, 15, 16, 17, 18, 19, 20, 21, 22, 23, 24, 5, 6, 7, 8, 9, 25, 26, 27, 28, 29, 30, 31, 32, 33, 34, 35, 36, 37, 38, 39, 40, 41, 50, 51, 52, 53, 54, 55, 56, 57, 58, 59, 60, 61, 62, 63, 64, 65, 66, 67, 68, 69, 70, 71, 47, 48, 49] (by decide +kernel) (by decide +kernel)
set_option maxRecDepth 20000 in
theorem gX2_requireRoom_X0_netRatesGiven : GoodIn wsX2_requireRoom (wsV RX2 164 RX0 yX0_netRatesGiven wsX0_netRatesGiven) := goodIn_app (goodIn_of _ (by decide +kernel)) ggX2_requireRoom_X0_netRatesGiven
theorem dX2_requireRoom_0 : decode cX2_requireRoom 0 = .ok (.aload_n 0, 1) := by decide +kernel
theorem dX2_requireRoom_1 : decode cX2_requireRoom 1 = .ok (.getfield 22, 3) := by decide +kernel
theorem dX2_requireRoom_4 : decode cX2_requireRoom 4 = .ok (.invokevirtual 78, 3) := by decide +kernel
theorem dX2_requireRoom_7 : decode cX2_requireRoom 7 = .ok (.bipush 8, 2) := by decide +kernel
theorem dX2_requireRoom_9 : decode cX2_requireRoom 9 = .ok (.if_icmp .lt 13, 3) := by decide +kernel
theorem dX2_requireRoom_12 : decode cX2_requireRoom 12 = .ok (.new 101, 3) := by decide +kernel
theorem dX2_requireRoom_15 : decode cX2_requireRoom 15 = .ok (.dup, 1) := by decide +kernel
theorem dX2_requireRoom_16 : decode cX2_requireRoom 16 = .ok (.ldc 162, 2) := by decide +kernel
theorem dX2_requireRoom_18 : decode cX2_requireRoom 18 = .ok (.invokespecial 105, 3) := by decide +kernel
theorem dX2_requireRoom_21 : decode cX2_requireRoom 21 = .ok (.athrow, 1) := by decide +kernel
theorem dX2_requireRoom_22 : decode cX2_requireRoom 22 = .ok (.iload_n 2, 1) := by decide +kernel
theorem dX2_requireRoom_23 : decode cX2_requireRoom 23 = .ok (.iconst 1, 1) := by decide +kernel
theorem dX2_requireRoom_24 : decode cX2_requireRoom 24 = .ok (.if_icmp .ne 25, 3) := by decide +kernel
theorem dX2_requireRoom_27 : decode cX2_requireRoom 27 = .ok (.aload_n 1, 1) := by decide +kernel
theorem dX2_requireRoom_28 : decode cX2_requireRoom 28 = .ok (.invokevirtual 164, 3) := by decide +kernel
theorem dX2_requireRoom_31 : decode cX2_requireRoom 31 = .ok (.iload_n 3, 1) := by decide +kernel
theorem dX2_requireRoom_32 : decode cX2_requireRoom 32 = .ok (.iadd, 1) := by decide +kernel
theorem dX2_requireRoom_33 : decode cX2_requireRoom 33 = .ok (.sipush 10000, 3) := by decide +kernel
theorem dX2_requireRoom_36 : decode cX2_requireRoom 36 = .ok (.if_icmp .le 13, 3) := by decide +kernel
theorem dX2_requireRoom_39 : decode cX2_requireRoom 39 = .ok (.new 101, 3) := by decide +kernel
theorem dX2_requireRoom_42 : decode cX2_requireRoom 42 = .ok (.dup, 1) := by decide +kernel
theorem dX2_requireRoom_43 : decode cX2_requireRoom 43 = .ok (.ldc 167, 2) := by decide +kernel
theorem dX2_requireRoom_45 : decode cX2_requireRoom 45 = .ok (.invokespecial 105, 3) := by decide +kernel
theorem dX2_requireRoom_48 : decode cX2_requireRoom 48 = .ok (.athrow, 1) := by decide +kernel
theorem dX2_requireRoom_49 : decode cX2_requireRoom 49 = .ok (.return_, 1) := by decide +kernel
theorem dX2_pictureOf_0 : decode cX2_pictureOf 0 = .ok (.iload_n 1, 1) := by decide +kernel
theorem dX2_pictureOf_1 : decode cX2_pictureOf 1 = .ok (.ifCond .ne 10, 3) := by decide +kernel
theorem dX2_pictureOf_4 : decode cX2_pictureOf 4 = .ok (.aload_n 0, 1) := by decide +kernel
theorem dX2_pictureOf_5 : decode cX2_pictureOf 5 = .ok (.getfield 10, 3) := by decide +kernel
theorem dX2_pictureOf_8 : decode cX2_pictureOf 8 = .ok (.goto 7, 3) := by decide +kernel
theorem dX2_pictureOf_11 : decode cX2_pictureOf 11 = .ok (.aload_n 0, 1) := by decide +kernel
theorem dX2_pictureOf_12 : decode cX2_pictureOf 12 = .ok (.getfield 16, 3) := by decide +kernel
theorem dX2_pictureOf_15 : decode cX2_pictureOf 15 = .ok (.areturn, 1) := by decide +kernel
set_option maxRecDepth 20000 in
theorem ggX2_drawnSum_X2_drawBooks : GoodIn wsX2_drawnSum wsX2_drawBooks := goodIn_r _ [6, 7, 8, 9, 10, 11, 12, 13, 14, 15, 16, 17, 18, 19, 20, 21, 22, 23, 24, 25, 26, 27, 28, 29, 30, 31, 32, 33, 34, 5, 35, 36, 37, 38, 39, 40, 41, 42, 43, 44, 45, 46, 47, 48, 49, 50, 51, 52, 53, 54, 55, 56, 57, 58, 59, 60, 61, 62, 63, 64, 65, 66, 67, 68, 69, 70, 71, 72, 73, 74, 75, 76, 77, 78, 79, 80, 81, 82, 83, 84, 85, 86, 87, 88, 89, 90, 91, 92, 93, 94, 95, 96, 97, 98, 99, 100, 101, 123, 124, 125, 126, 127, 128, 129, 130, 131, 132, 133, 134, 135, 136, 137, 138, 139, 140, 141, 142, 116, 117, 118, 119, 120, 121, 122, 143, 144, 145] (by decide +kernel) (by decide +kernel)
set_option maxRecDepth 20000 in
theorem gX2_drawnSum_X2_drawBooks : GoodIn wsX2_drawnSum (wsV RX2 125 RX2 yX2_drawBooks wsX2_drawBooks) := goodIn_app (goodIn_of _ (by decide +kernel)) ggX2_drawnSum_X2_drawBooks
set_option maxRecDepth 20000 in
theorem ggX2_drawnSum_X0_sumDrawn : GoodIn wsX2_drawnSum wsX0_sumDrawn := goodIn_r _ [105, 48, 17, 106, 107, 94, 79, 80, 81, 16, 72, 73, 74, 75, 76, 77, 78, 82, 83, 84, 108, 109, 110, 14, 111, 46, 49, 50, 51, 52, 53, 54, 112, 113, 114, 115, 21, 47, 55, 56, 57, 58, 59, 60, 61, 62, 63, 64, 65, 66, 67, 68, 69, 70, 71, 85, 86, 87, 88, 89, 116, 117, 118, 119, 120, 121, 122, 128, 129, 130, 131, 132, 133, 134, 135, 136, 137, 138, 139, 140, 141, 142, 143, 144, 145] (by decide +kernel) (by decide +kernel)
set_option maxRecDepth 20000 in
theorem gX2_drawnSum_X0_sumDrawn : GoodIn wsX2_drawnSum (wsV RX2 174 RX0 yX0_sumDrawn wsX0_sumDrawn) := goodIn_app (goodIn_of _ (by decide +kernel)) ggX2_drawnSum_X0_sumDrawn
theorem dX2_drawnSum_0 : decode cX2_drawnSum 0 = .ok (.aload_n 0, 1) := by decide +kernel
theorem dX2_drawnSum_1 : decode cX2_drawnSum 1 = .ok (.invokevirtual 125, 3) := by decide +kernel
theorem dX2_drawnSum_4 : decode cX2_drawnSum 4 = .ok (.aload_n 1, 1) := by decide +kernel
theorem dX2_drawnSum_5 : decode cX2_drawnSum 5 = .ok (.getfield 171, 3) := by decide +kernel
theorem dX2_drawnSum_8 : decode cX2_drawnSum 8 = .ok (.aload_n 1, 1) := by decide +kernel
theorem dX2_drawnSum_9 : decode cX2_drawnSum 9 = .ok (.invokevirtual 174, 3) := by decide +kernel
theorem dX2_drawnSum_12 : decode cX2_drawnSum 12 = .ok (.lreturn, 1) := by decide +kernel
set_option maxRecDepth 20000 in
theorem ggX2_drawBooks_X0_startBooks : GoodIn wsX2_drawBooks wsX0_startBooks := goodIn_r _ [9, 10, 11, 12, 13, 14, 15, 102, 103, 104, 105, 106, 107, 108, 109, 110, 111, 112, 113, 114, 115, 116] (by decide +kernel) (by decide +kernel)
set_option maxRecDepth 20000 in
theorem gX2_drawBooks_X0_startBooks : GoodIn wsX2_drawBooks (wsV RX2 177 RX0 yX0_startBooks wsX0_startBooks) := goodIn_app (goodIn_of _ (by decide +kernel)) ggX2_drawBooks_X0_startBooks
set_option maxRecDepth 20000 in
theorem ggX2_drawBooks_X0_recoup : GoodIn wsX2_drawBooks wsX0_recoup := goodIn_r _ [19, 20, 10, 11, 12, 14, 21, 22, 13, 15, 23, 24, 25, 8, 26, 27, 28, 29, 30, 31, 32, 33, 34, 35, 36, 37, 38, 39, 40, 41, 42, 43, 44, 45, 46, 47, 48, 49, 50, 51, 52, 53, 54, 55, 56, 57, 58, 59, 60, 61, 62, 63, 64, 65, 66, 67, 68, 69, 70, 71, 72, 73, 74, 75, 76, 77, 78, 79, 80, 81, 82, 83, 84, 102, 103, 104, 105, 106, 107, 108, 109, 110, 111, 112, 113, 114, 115, 116, 117, 118, 119, 120, 121, 122, 123, 124, 125, 126] (by decide +kernel) (by decide +kernel)
set_option maxRecDepth 20000 in
theorem gX2_drawBooks_X0_recoup : GoodIn wsX2_drawBooks (wsV RX2 180 RX0 yX0_recoup wsX0_recoup) := goodIn_app (goodIn_of _ (by decide +kernel)) ggX2_drawBooks_X0_recoup
set_option maxRecDepth 20000 in
theorem ggX2_drawBooks_X0_moveGain : GoodIn wsX2_drawBooks wsX0_moveGain := goodIn_r _ [88, 14, 89, 74, 75, 76, 15, 102, 103, 104, 105, 106, 107, 108, 109, 110, 111, 112, 113, 114, 115, 116] (by decide +kernel) (by decide +kernel)
set_option maxRecDepth 20000 in
theorem gX2_drawBooks_X0_moveGain : GoodIn wsX2_drawBooks (wsV RX2 184 RX0 yX0_moveGain wsX0_moveGain) := goodIn_app (goodIn_of _ (by decide +kernel)) ggX2_drawBooks_X0_moveGain
set_option maxRecDepth 20000 in
theorem ggX2_drawBooks_X0_finishYear : GoodIn wsX2_drawBooks wsX0_finishYear := goodIn_r _ [93, 14, 94, 95, 96, 15, 28, 29, 30, 31, 102, 103, 104, 105, 106, 107, 108, 109, 110, 111, 112, 113, 114, 115, 116] (by decide +kernel) (by decide +kernel)
set_option maxRecDepth 20000 in
theorem gX2_drawBooks_X0_finishYear : GoodIn wsX2_drawBooks (wsV RX2 188 RX0 yX0_finishYear wsX0_finishYear) := goodIn_app (goodIn_of _ (by decide +kernel)) ggX2_drawBooks_X0_finishYear
theorem dX2_drawBooks_0 : decode cX2_drawBooks 0 = .ok (.aload_n 0, 1) := by decide +kernel
theorem dX2_drawBooks_1 : decode cX2_drawBooks 1 = .ok (.getfield 10, 3) := by decide +kernel
theorem dX2_drawBooks_4 : decode cX2_drawBooks 4 = .ok (.invokevirtual 177, 3) := by decide +kernel
theorem dX2_drawBooks_7 : decode cX2_drawBooks 7 = .ok (.aload_n 0, 1) := by decide +kernel
theorem dX2_drawBooks_8 : decode cX2_drawBooks 8 = .ok (.getfield 16, 3) := by decide +kernel
theorem dX2_drawBooks_11 : decode cX2_drawBooks 11 = .ok (.invokevirtual 177, 3) := by decide +kernel
theorem dX2_drawBooks_14 : decode cX2_drawBooks 14 = .ok (.iconst 0, 1) := by decide +kernel
theorem dX2_drawBooks_15 : decode cX2_drawBooks 15 = .ok (.istore_n 1, 1) := by decide +kernel
theorem dX2_drawBooks_16 : decode cX2_drawBooks 16 = .ok (.iload_n 1, 1) := by decide +kernel
theorem dX2_drawBooks_17 : decode cX2_drawBooks 17 = .ok (.bipush 10, 2) := by decide +kernel
theorem dX2_drawBooks_19 : decode cX2_drawBooks 19 = .ok (.if_icmp .ge 84, 3) := by decide +kernel
theorem dX2_drawBooks_22 : decode cX2_drawBooks 22 = .ok (.iload_n 1, 1) := by decide +kernel
theorem dX2_drawBooks_23 : decode cX2_drawBooks 23 = .ok (.aload_n 0, 1) := by decide +kernel
theorem dX2_drawBooks_24 : decode cX2_drawBooks 24 = .ok (.getfield 30, 3) := by decide +kernel
theorem dX2_drawBooks_27 : decode cX2_drawBooks 27 = .ok (.if_icmp .gt 76, 3) := by decide +kernel
theorem dX2_drawBooks_30 : decode cX2_drawBooks 30 = .ok (.aload_n 0, 1) := by decide +kernel
theorem dX2_drawBooks_31 : decode cX2_drawBooks 31 = .ok (.getfield 10, 3) := by decide +kernel
theorem dX2_drawBooks_34 : decode cX2_drawBooks 34 = .ok (.iload_n 1, 1) := by decide +kernel
theorem dX2_drawBooks_35 : decode cX2_drawBooks 35 = .ok (.invokevirtual 180, 3) := by decide +kernel
theorem dX2_drawBooks_38 : decode cX2_drawBooks 38 = .ok (.lstore_n 2, 1) := by decide +kernel
theorem dX2_drawBooks_39 : decode cX2_drawBooks 39 = .ok (.aload_n 0, 1) := by decide +kernel
theorem dX2_drawBooks_40 : decode cX2_drawBooks 40 = .ok (.getfield 16, 3) := by decide +kernel
theorem dX2_drawBooks_43 : decode cX2_drawBooks 43 = .ok (.iload_n 1, 1) := by decide +kernel
theorem dX2_drawBooks_44 : decode cX2_drawBooks 44 = .ok (.invokevirtual 180, 3) := by decide +kernel
theorem dX2_drawBooks_47 : decode cX2_drawBooks 47 = .ok (.lstore 4, 2) := by decide +kernel
theorem dX2_drawBooks_49 : decode cX2_drawBooks 49 = .ok (.aload_n 0, 1) := by decide +kernel
theorem dX2_drawBooks_50 : decode cX2_drawBooks 50 = .ok (.getfield 26, 3) := by decide +kernel
theorem dX2_drawBooks_53 : decode cX2_drawBooks 53 = .ok (.ifCond .eq 28, 3) := by decide +kernel
theorem dX2_drawBooks_56 : decode cX2_drawBooks 56 = .ok (.aload_n 0, 1) := by decide +kernel
theorem dX2_drawBooks_57 : decode cX2_drawBooks 57 = .ok (.getfield 10, 3) := by decide +kernel
theorem dX2_drawBooks_60 : decode cX2_drawBooks 60 = .ok (.lload_n 2, 1) := by decide +kernel
theorem dX2_drawBooks_61 : decode cX2_drawBooks 61 = .ok (.aload_n 0, 1) := by decide +kernel
theorem dX2_drawBooks_62 : decode cX2_drawBooks 62 = .ok (.getfield 16, 3) := by decide +kernel
theorem dX2_drawBooks_65 : decode cX2_drawBooks 65 = .ok (.invokevirtual 184, 3) := by decide +kernel
theorem dX2_drawBooks_68 : decode cX2_drawBooks 68 = .ok (.aload_n 0, 1) := by decide +kernel
theorem dX2_drawBooks_69 : decode cX2_drawBooks 69 = .ok (.getfield 16, 3) := by decide +kernel
theorem dX2_drawBooks_72 : decode cX2_drawBooks 72 = .ok (.lload 4, 2) := by decide +kernel
theorem dX2_drawBooks_74 : decode cX2_drawBooks 74 = .ok (.aload_n 0, 1) := by decide +kernel
theorem dX2_drawBooks_75 : decode cX2_drawBooks 75 = .ok (.getfield 10, 3) := by decide +kernel
theorem dX2_drawBooks_78 : decode cX2_drawBooks 78 = .ok (.invokevirtual 184, 3) := by decide +kernel
theorem dX2_drawBooks_81 : decode cX2_drawBooks 81 = .ok (.aload_n 0, 1) := by decide +kernel
theorem dX2_drawBooks_82 : decode cX2_drawBooks 82 = .ok (.getfield 10, 3) := by decide +kernel
theorem dX2_drawBooks_85 : decode cX2_drawBooks 85 = .ok (.iload_n 1, 1) := by decide +kernel
theorem dX2_drawBooks_86 : decode cX2_drawBooks 86 = .ok (.invokevirtual 188, 3) := by decide +kernel
theorem dX2_drawBooks_89 : decode cX2_drawBooks 89 = .ok (.aload_n 0, 1) := by decide +kernel
theorem dX2_drawBooks_90 : decode cX2_drawBooks 90 = .ok (.getfield 16, 3) := by decide +kernel
theorem dX2_drawBooks_93 : decode cX2_drawBooks 93 = .ok (.iload_n 1, 1) := by decide +kernel
theorem dX2_drawBooks_94 : decode cX2_drawBooks 94 = .ok (.invokevirtual 188, 3) := by decide +kernel
theorem dX2_drawBooks_97 : decode cX2_drawBooks 97 = .ok (.iinc 1 1, 3) := by decide +kernel
theorem dX2_drawBooks_100 : decode cX2_drawBooks 100 = .ok (.goto (-84), 3) := by decide +kernel
theorem dX2_drawBooks_103 : decode cX2_drawBooks 103 = .ok (.return_, 1) := by decide +kernel
theorem dX2_part_0 : decode cX2_part 0 = .ok (.lload_n 0, 1) := by decide +kernel
theorem dX2_part_1 : decode cX2_part 1 = .ok (.iload_n 2, 1) := by decide +kernel
theorem dX2_part_2 : decode cX2_part 2 = .ok (.i2l, 1) := by decide +kernel
theorem dX2_part_3 : decode cX2_part 3 = .ok (.lmul, 1) := by decide +kernel
theorem dX2_part_4 : decode cX2_part 4 = .ok (.ldc2_w 191, 3) := by decide +kernel
theorem dX2_part_7 : decode cX2_part 7 = .ok (.ldiv, 1) := by decide +kernel
theorem dX2_part_8 : decode cX2_part 8 = .ok (.lreturn, 1) := by decide +kernel
theorem dJ9_max_7cf53_0 : decode cJ9_max_7cf53 0 = .ok (.iload_n 0, 1) := by decide +kernel
theorem dJ9_max_7cf53_1 : decode cJ9_max_7cf53 1 = .ok (.iload_n 1, 1) := by decide +kernel
theorem dJ9_max_7cf53_2 : decode cJ9_max_7cf53 2 = .ok (.if_icmp .lt 7, 3) := by decide +kernel
theorem dJ9_max_7cf53_5 : decode cJ9_max_7cf53 5 = .ok (.iload_n 0, 1) := by decide +kernel
theorem dJ9_max_7cf53_6 : decode cJ9_max_7cf53 6 = .ok (.goto 4, 3) := by decide +kernel
theorem dJ9_max_7cf53_9 : decode cJ9_max_7cf53 9 = .ok (.iload_n 1, 1) := by decide +kernel
theorem dJ9_max_7cf53_10 : decode cJ9_max_7cf53 10 = .ok (.ireturn, 1) := by decide +kernel
theorem dJ9_min_7cf53_0 : decode cJ9_min_7cf53 0 = .ok (.iload_n 0, 1) := by decide +kernel
theorem dJ9_min_7cf53_1 : decode cJ9_min_7cf53 1 = .ok (.iload_n 1, 1) := by decide +kernel
theorem dJ9_min_7cf53_2 : decode cJ9_min_7cf53 2 = .ok (.if_icmp .gt 7, 3) := by decide +kernel
theorem dJ9_min_7cf53_5 : decode cJ9_min_7cf53 5 = .ok (.iload_n 0, 1) := by decide +kernel
theorem dJ9_min_7cf53_6 : decode cJ9_min_7cf53 6 = .ok (.goto 4, 3) := by decide +kernel
theorem dJ9_min_7cf53_9 : decode cJ9_min_7cf53 9 = .ok (.iload_n 1, 1) := by decide +kernel
theorem dJ9_min_7cf53_10 : decode cJ9_min_7cf53 10 = .ok (.ireturn, 1) := by decide +kernel
theorem dJ9_min_f86c9_0 : decode cJ9_min_f86c9 0 = .ok (.lload_n 0, 1) := by decide +kernel
theorem dJ9_min_f86c9_1 : decode cJ9_min_f86c9 1 = .ok (.lload_n 2, 1) := by decide +kernel
theorem dJ9_min_f86c9_2 : decode cJ9_min_f86c9 2 = .ok (.lcmp, 1) := by decide +kernel
theorem dJ9_min_f86c9_3 : decode cJ9_min_f86c9 3 = .ok (.ifCond .gt 7, 3) := by decide +kernel
theorem dJ9_min_f86c9_6 : decode cJ9_min_f86c9 6 = .ok (.lload_n 0, 1) := by decide +kernel
theorem dJ9_min_f86c9_7 : decode cJ9_min_f86c9 7 = .ok (.goto 4, 3) := by decide +kernel
theorem dJ9_min_f86c9_10 : decode cJ9_min_f86c9 10 = .ok (.lload_n 2, 1) := by decide +kernel
theorem dJ9_min_f86c9_11 : decode cJ9_min_f86c9 11 = .ok (.lreturn, 1) := by decide +kernel
theorem dJxa1e45_init_da8c8_0 : decode cJxa1e45_init_da8c8 0 = .ok (.aload_n 0, 1) := by decide +kernel
theorem dJxa1e45_init_da8c8_1 : decode cJxa1e45_init_da8c8 1 = .ok (.invokespecial 1, 3) := by decide +kernel
theorem dJxa1e45_init_da8c8_4 : decode cJxa1e45_init_da8c8 4 = .ok (.return_, 1) := by decide +kernel
set_option maxRecDepth 20000 in
theorem ggJxc12de_init_da8c8_Jxa1e45_init_da8c8 : GoodIn wsJxc12de_init_da8c8 wsJxa1e45_init_da8c8 := goodIn_r _ [5, 6, 7, 8] (by decide +kernel) (by decide +kernel)
set_option maxRecDepth 20000 in
theorem gJxc12de_init_da8c8_Jxa1e45_init_da8c8 : GoodIn wsJxc12de_init_da8c8 (wsJxa1e45_init_da8c8) := ggJxc12de_init_da8c8_Jxa1e45_init_da8c8
theorem dJxc12de_init_da8c8_0 : decode cJxc12de_init_da8c8 0 = .ok (.aload_n 0, 1) := by decide +kernel
theorem dJxc12de_init_da8c8_1 : decode cJxc12de_init_da8c8 1 = .ok (.invokespecial 1, 3) := by decide +kernel
theorem dJxc12de_init_da8c8_4 : decode cJxc12de_init_da8c8 4 = .ok (.aload_n 0, 1) := by decide +kernel
theorem dJxc12de_init_da8c8_5 : decode cJxc12de_init_da8c8 5 = .ok (.iconst 0, 1) := by decide +kernel
theorem dJxc12de_init_da8c8_6 : decode cJxc12de_init_da8c8 6 = .ok (.putfield 7, 3) := by decide +kernel
theorem dJxc12de_init_da8c8_9 : decode cJxc12de_init_da8c8 9 = .ok (.return_, 1) := by decide +kernel
set_option maxRecDepth 20000 in
theorem ggJx4a65c_init_da8c8_Jxc12de_init_da8c8 : GoodIn wsJx4a65c_init_da8c8 wsJxc12de_init_da8c8 := goodIn_r _ [6, 7, 8, 9, 10, 11, 12, 13, 14, 15, 16, 17] (by decide +kernel) (by decide +kernel)
set_option maxRecDepth 20000 in
theorem gJx4a65c_init_da8c8_Jxc12de_init_da8c8 : GoodIn wsJx4a65c_init_da8c8 (wsJxc12de_init_da8c8) := ggJx4a65c_init_da8c8_Jxc12de_init_da8c8
theorem dJx4a65c_init_da8c8_0 : decode cJx4a65c_init_da8c8 0 = .ok (.aload_n 0, 1) := by decide +kernel
theorem dJx4a65c_init_da8c8_1 : decode cJx4a65c_init_da8c8 1 = .ok (.invokespecial 1, 3) := by decide +kernel
theorem dJx4a65c_init_da8c8_4 : decode cJx4a65c_init_da8c8 4 = .ok (.aload_n 0, 1) := by decide +kernel
theorem dJx4a65c_init_da8c8_5 : decode cJx4a65c_init_da8c8 5 = .ok (.getstatic 39, 3) := by decide +kernel
theorem dJx4a65c_init_da8c8_8 : decode cJx4a65c_init_da8c8 8 = .ok (.putfield 9, 3) := by decide +kernel
theorem dJx4a65c_init_da8c8_11 : decode cJx4a65c_init_da8c8 11 = .ok (.return_, 1) := by decide +kernel
set_option maxRecDepth 20000 in
theorem ggJx4a65c_grow_92f84_J8_newLength_cabcc : GoodIn wsJx4a65c_grow_92f84 wsJ8_newLength_cabcc := goodIn_r _ [11, 12, 4, 5, 6, 13, 14, 15, 10, 16] (by decide +kernel) (by decide +kernel)
set_option maxRecDepth 20000 in
theorem gJx4a65c_grow_92f84_J8_newLength_cabcc : GoodIn wsJx4a65c_grow_92f84 (va_wsS RJx4a65c 73 yJ8_newLength_cabcc wsJ8_newLength_cabcc) := goodIn_app (goodIn_of _ (by decide +kernel)) ggJx4a65c_grow_92f84_J8_newLength_cabcc
set_option maxRecDepth 20000 in
theorem ggJx4a65c_grow_92f84_J7_copyOf_1904c : GoodIn wsJx4a65c_grow_92f84 wsJ7_copyOf_1904c := goodIn_r _ [20, 21, 22, 23, 24, 25, 26, 19, 27, 28, 29, 30, 31, 5, 32, 33, 34, 35, 36] (by decide +kernel) (by decide +kernel)
set_option maxRecDepth 20000 in
theorem gJx4a65c_grow_92f84_J7_copyOf_1904c : GoodIn wsJx4a65c_grow_92f84 (va_wsS RJx4a65c 66 yJ7_copyOf_1904c wsJ7_copyOf_1904c) := goodIn_app (goodIn_of _ (by decide +kernel)) ggJx4a65c_grow_92f84_J7_copyOf_1904c
theorem dJx4a65c_grow_92f84_0 : decode cJx4a65c_grow_92f84 0 = .ok (.aload_n 0, 1) := by decide +kernel
theorem dJx4a65c_grow_92f84_1 : decode cJx4a65c_grow_92f84 1 = .ok (.getfield 9, 3) := by decide +kernel
theorem dJx4a65c_grow_92f84_4 : decode cJx4a65c_grow_92f84 4 = .ok (.arraylength, 1) := by decide +kernel
theorem dJx4a65c_grow_92f84_5 : decode cJx4a65c_grow_92f84 5 = .ok (.istore_n 2, 1) := by decide +kernel
theorem dJx4a65c_grow_92f84_6 : decode cJx4a65c_grow_92f84 6 = .ok (.iload_n 2, 1) := by decide +kernel
theorem dJx4a65c_grow_92f84_7 : decode cJx4a65c_grow_92f84 7 = .ok (.ifCond .gt 13, 3) := by decide +kernel
theorem dJx4a65c_grow_92f84_10 : decode cJx4a65c_grow_92f84 10 = .ok (.aload_n 0, 1) := by decide +kernel
theorem dJx4a65c_grow_92f84_11 : decode cJx4a65c_grow_92f84 11 = .ok (.getfield 9, 3) := by decide +kernel
theorem dJx4a65c_grow_92f84_14 : decode cJx4a65c_grow_92f84 14 = .ok (.getstatic 39, 3) := by decide +kernel
theorem dJx4a65c_grow_92f84_17 : decode cJx4a65c_grow_92f84 17 = .ok (.if_acmp .eq 28, 3) := by decide +kernel
theorem dJx4a65c_grow_92f84_20 : decode cJx4a65c_grow_92f84 20 = .ok (.iload_n 2, 1) := by decide +kernel
theorem dJx4a65c_grow_92f84_21 : decode cJx4a65c_grow_92f84 21 = .ok (.iload_n 1, 1) := by decide +kernel
theorem dJx4a65c_grow_92f84_22 : decode cJx4a65c_grow_92f84 22 = .ok (.iload_n 2, 1) := by decide +kernel
theorem dJx4a65c_grow_92f84_23 : decode cJx4a65c_grow_92f84 23 = .ok (.isub, 1) := by decide +kernel
theorem dJx4a65c_grow_92f84_24 : decode cJx4a65c_grow_92f84 24 = .ok (.iload_n 2, 1) := by decide +kernel
theorem dJx4a65c_grow_92f84_25 : decode cJx4a65c_grow_92f84 25 = .ok (.iconst 1, 1) := by decide +kernel
theorem dJx4a65c_grow_92f84_26 : decode cJx4a65c_grow_92f84 26 = .ok (.ishr, 1) := by decide +kernel
theorem dJx4a65c_grow_92f84_27 : decode cJx4a65c_grow_92f84 27 = .ok (.invokestatic 73, 3) := by decide +kernel
theorem dJx4a65c_grow_92f84_30 : decode cJx4a65c_grow_92f84 30 = .ok (.istore_n 3, 1) := by decide +kernel
theorem dJx4a65c_grow_92f84_31 : decode cJx4a65c_grow_92f84 31 = .ok (.aload_n 0, 1) := by decide +kernel
theorem dJx4a65c_grow_92f84_32 : decode cJx4a65c_grow_92f84 32 = .ok (.aload_n 0, 1) := by decide +kernel
theorem dJx4a65c_grow_92f84_33 : decode cJx4a65c_grow_92f84 33 = .ok (.getfield 9, 3) := by decide +kernel
theorem dJx4a65c_grow_92f84_36 : decode cJx4a65c_grow_92f84 36 = .ok (.iload_n 3, 1) := by decide +kernel
theorem dJx4a65c_grow_92f84_37 : decode cJx4a65c_grow_92f84 37 = .ok (.invokestatic 66, 3) := by decide +kernel
theorem dJx4a65c_grow_92f84_40 : decode cJx4a65c_grow_92f84 40 = .ok (.dup_x1, 1) := by decide +kernel
theorem dJx4a65c_grow_92f84_41 : decode cJx4a65c_grow_92f84 41 = .ok (.putfield 9, 3) := by decide +kernel
theorem dJx4a65c_grow_92f84_44 : decode cJx4a65c_grow_92f84 44 = .ok (.areturn, 1) := by decide +kernel
theorem dJx4a65c_grow_92f84_45 : decode cJx4a65c_grow_92f84 45 = .ok (.aload_n 0, 1) := by decide +kernel
theorem dJx4a65c_grow_92f84_46 : decode cJx4a65c_grow_92f84 46 = .ok (.bipush 10, 2) := by decide +kernel
theorem dJx4a65c_grow_92f84_48 : decode cJx4a65c_grow_92f84 48 = .ok (.iload_n 1, 1) := by decide +kernel
theorem dJx4a65c_grow_92f84_49 : decode cJx4a65c_grow_92f84 49 = .ok (.invokestatic 79, 3) := by decide +kernel
theorem dJx4a65c_grow_92f84_52 : decode cJx4a65c_grow_92f84 52 = .ok (.anewarray 7, 3) := by decide +kernel
theorem dJx4a65c_grow_92f84_55 : decode cJx4a65c_grow_92f84 55 = .ok (.dup_x1, 1) := by decide +kernel
theorem dJx4a65c_grow_92f84_56 : decode cJx4a65c_grow_92f84 56 = .ok (.putfield 9, 3) := by decide +kernel
theorem dJx4a65c_grow_92f84_59 : decode cJx4a65c_grow_92f84 59 = .ok (.areturn, 1) := by decide +kernel
set_option maxRecDepth 20000 in
theorem ggJx4a65c_grow_d5877_Jx4a65c_grow_92f84 : GoodIn wsJx4a65c_grow_d5877 wsJx4a65c_grow_92f84 := goodIn_r _ [6, 7, 8, 9, 10, 11, 12, 13, 14, 15, 16, 17, 18, 19, 20, 21, 22, 23, 24, 25, 26, 27, 28, 29, 30, 31, 32, 33, 34, 35, 36, 37, 38, 39, 40, 41, 42, 43, 44, 45] (by decide +kernel) (by decide +kernel)
set_option maxRecDepth 20000 in
theorem gJx4a65c_grow_d5877_Jx4a65c_grow_92f84 : GoodIn wsJx4a65c_grow_d5877 (wsV RJx4a65c 69 RJx4a65c yJx4a65c_grow_92f84 wsJx4a65c_grow_92f84) := goodIn_app (goodIn_of _ (by decide +kernel)) ggJx4a65c_grow_d5877_Jx4a65c_grow_92f84
theorem dJx4a65c_grow_d5877_0 : decode cJx4a65c_grow_d5877 0 = .ok (.aload_n 0, 1) := by decide +kernel
theorem dJx4a65c_grow_d5877_1 : decode cJx4a65c_grow_d5877 1 = .ok (.aload_n 0, 1) := by decide +kernel
theorem dJx4a65c_grow_d5877_2 : decode cJx4a65c_grow_d5877 2 = .ok (.getfield 48, 3) := by decide +kernel
theorem dJx4a65c_grow_d5877_5 : decode cJx4a65c_grow_d5877 5 = .ok (.iconst 1, 1) := by decide +kernel
theorem dJx4a65c_grow_d5877_6 : decode cJx4a65c_grow_d5877 6 = .ok (.iadd, 1) := by decide +kernel
theorem dJx4a65c_grow_d5877_7 : decode cJx4a65c_grow_d5877 7 = .ok (.invokevirtual 69, 3) := by decide +kernel
theorem dJx4a65c_grow_d5877_10 : decode cJx4a65c_grow_d5877 10 = .ok (.areturn, 1) := by decide +kernel
theorem dJx4a65c_size_8abf5_0 : decode cJx4a65c_size_8abf5 0 = .ok (.aload_n 0, 1) := by decide +kernel
theorem dJx4a65c_size_8abf5_1 : decode cJx4a65c_size_8abf5 1 = .ok (.getfield 48, 3) := by decide +kernel
theorem dJx4a65c_size_8abf5_4 : decode cJx4a65c_size_8abf5 4 = .ok (.ireturn, 1) := by decide +kernel
theorem dJx4a65c_elementData_915e3_0 : decode cJx4a65c_elementData_915e3 0 = .ok (.aload_n 0, 1) := by decide +kernel
theorem dJx4a65c_elementData_915e3_1 : decode cJx4a65c_elementData_915e3 1 = .ok (.getfield 9, 3) := by decide +kernel
theorem dJx4a65c_elementData_915e3_4 : decode cJx4a65c_elementData_915e3 4 = .ok (.iload_n 1, 1) := by decide +kernel
theorem dJx4a65c_elementData_915e3_5 : decode cJx4a65c_elementData_915e3 5 = .ok (.aaload, 1) := by decide +kernel
theorem dJx4a65c_elementData_915e3_6 : decode cJx4a65c_elementData_915e3 6 = .ok (.areturn, 1) := by decide +kernel
set_option maxRecDepth 20000 in
theorem ggJx4a65c_get_915e3_J15_checkIndex_7cf53 : GoodIn wsJx4a65c_get_915e3 wsJ15_checkIndex_7cf53 := goodIn_r _ [5, 6, 7, 8, 9] (by decide +kernel) (by decide +kernel)
set_option maxRecDepth 20000 in
theorem gJx4a65c_get_915e3_J15_checkIndex_7cf53 : GoodIn wsJx4a65c_get_915e3 (va_wsS RJx4a65c 118 yJ15_checkIndex_7cf53 wsJ15_checkIndex_7cf53) := goodIn_app (goodIn_of _ (by decide +kernel)) ggJx4a65c_get_915e3_J15_checkIndex_7cf53
set_option maxRecDepth 20000 in
theorem ggJx4a65c_get_915e3_Jx4a65c_elementData_915e3 : GoodIn wsJx4a65c_get_915e3 wsJx4a65c_elementData_915e3 := goodIn_r _ [14, 15, 16, 17, 18] (by decide +kernel) (by decide +kernel)
set_option maxRecDepth 20000 in
theorem gJx4a65c_get_915e3_Jx4a65c_elementData_915e3 : GoodIn wsJx4a65c_get_915e3 (wsV RJx4a65c 123 RJx4a65c yJx4a65c_elementData_915e3 wsJx4a65c_elementData_915e3) := goodIn_app (goodIn_of _ (by decide +kernel)) ggJx4a65c_get_915e3_Jx4a65c_elementData_915e3
theorem dJx4a65c_get_915e3_0 : decode cJx4a65c_get_915e3 0 = .ok (.iload_n 1, 1) := by decide +kernel
theorem dJx4a65c_get_915e3_1 : decode cJx4a65c_get_915e3 1 = .ok (.aload_n 0, 1) := by decide +kernel
theorem dJx4a65c_get_915e3_2 : decode cJx4a65c_get_915e3 2 = .ok (.getfield 48, 3) := by decide +kernel
theorem dJx4a65c_get_915e3_5 : decode cJx4a65c_get_915e3 5 = .ok (.invokestatic 118, 3) := by decide +kernel
theorem dJx4a65c_get_915e3_8 : decode cJx4a65c_get_915e3 8 = .ok (.pop, 1) := by decide +kernel
theorem dJx4a65c_get_915e3_9 : decode cJx4a65c_get_915e3 9 = .ok (.aload_n 0, 1) := by decide +kernel
theorem dJx4a65c_get_915e3_10 : decode cJx4a65c_get_915e3 10 = .ok (.iload_n 1, 1) := by decide +kernel
theorem dJx4a65c_get_915e3_11 : decode cJx4a65c_get_915e3 11 = .ok (.invokevirtual 123, 3) := by decide +kernel
theorem dJx4a65c_get_915e3_14 : decode cJx4a65c_get_915e3 14 = .ok (.areturn, 1) := by decide +kernel
set_option maxRecDepth 20000 in
theorem ggJx4a65c_add_72be8_Jx4a65c_grow_d5877 : GoodIn wsJx4a65c_add_72be8 wsJx4a65c_grow_d5877 := goodIn_r _ [6, 1, 7, 8, 9, 5, 10, 11, 12, 13, 14, 15, 16, 17, 18, 19, 20, 21, 22, 23, 24, 25, 26, 27, 28, 29, 30, 31, 32, 33, 34, 35, 36, 37, 38, 39, 40, 41, 42, 43, 44, 45, 46, 47, 48, 49] (by decide +kernel) (by decide +kernel)
set_option maxRecDepth 20000 in
theorem gJx4a65c_add_72be8_Jx4a65c_grow_d5877 : GoodIn wsJx4a65c_add_72be8 (wsV RJx4a65c 129 RJx4a65c yJx4a65c_grow_d5877 wsJx4a65c_grow_d5877) := goodIn_app (goodIn_of _ (by decide +kernel)) ggJx4a65c_add_72be8_Jx4a65c_grow_d5877
theorem dJx4a65c_add_72be8_0 : decode cJx4a65c_add_72be8 0 = .ok (.iload_n 3, 1) := by decide +kernel
theorem dJx4a65c_add_72be8_1 : decode cJx4a65c_add_72be8 1 = .ok (.aload_n 2, 1) := by decide +kernel
theorem dJx4a65c_add_72be8_2 : decode cJx4a65c_add_72be8 2 = .ok (.arraylength, 1) := by decide +kernel
theorem dJx4a65c_add_72be8_3 : decode cJx4a65c_add_72be8 3 = .ok (.if_icmp .ne 8, 3) := by decide +kernel
theorem dJx4a65c_add_72be8_6 : decode cJx4a65c_add_72be8 6 = .ok (.aload_n 0, 1) := by decide +kernel
theorem dJx4a65c_add_72be8_7 : decode cJx4a65c_add_72be8 7 = .ok (.invokevirtual 129, 3) := by decide +kernel
theorem dJx4a65c_add_72be8_10 : decode cJx4a65c_add_72be8 10 = .ok (.astore_n 2, 1) := by decide +kernel
theorem dJx4a65c_add_72be8_11 : decode cJx4a65c_add_72be8 11 = .ok (.aload_n 2, 1) := by decide +kernel
theorem dJx4a65c_add_72be8_12 : decode cJx4a65c_add_72be8 12 = .ok (.iload_n 3, 1) := by decide +kernel
theorem dJx4a65c_add_72be8_13 : decode cJx4a65c_add_72be8 13 = .ok (.aload_n 1, 1) := by decide +kernel
theorem dJx4a65c_add_72be8_14 : decode cJx4a65c_add_72be8 14 = .ok (.aastore, 1) := by decide +kernel
theorem dJx4a65c_add_72be8_15 : decode cJx4a65c_add_72be8 15 = .ok (.aload_n 0, 1) := by decide +kernel
theorem dJx4a65c_add_72be8_16 : decode cJx4a65c_add_72be8 16 = .ok (.iload_n 3, 1) := by decide +kernel
theorem dJx4a65c_add_72be8_17 : decode cJx4a65c_add_72be8 17 = .ok (.iconst 1, 1) := by decide +kernel
theorem dJx4a65c_add_72be8_18 : decode cJx4a65c_add_72be8 18 = .ok (.iadd, 1) := by decide +kernel
theorem dJx4a65c_add_72be8_19 : decode cJx4a65c_add_72be8 19 = .ok (.putfield 48, 3) := by decide +kernel
theorem dJx4a65c_add_72be8_22 : decode cJx4a65c_add_72be8 22 = .ok (.return_, 1) := by decide +kernel
set_option maxRecDepth 20000 in
theorem ggJx4a65c_add_9ea2d_Jx4a65c_add_72be8 : GoodIn wsJx4a65c_add_9ea2d wsJx4a65c_add_72be8 := goodIn_r _ [9, 4, 10, 11, 12, 8, 13, 14, 15, 16, 17, 3, 18, 19, 20, 21, 22, 23, 24, 25, 26, 27, 28, 29, 30, 31, 32, 33, 34, 35, 36, 37, 38, 39, 40, 41, 42, 43, 44, 45, 46, 47, 48, 49, 50, 51, 52, 53, 54, 55] (by decide +kernel) (by decide +kernel)
set_option maxRecDepth 20000 in
theorem gJx4a65c_add_9ea2d_Jx4a65c_add_72be8 : GoodIn wsJx4a65c_add_9ea2d (wsV RJx4a65c 131 RJx4a65c yJx4a65c_add_72be8 wsJx4a65c_add_72be8) := goodIn_app (goodIn_of _ (by decide +kernel)) ggJx4a65c_add_9ea2d_Jx4a65c_add_72be8
theorem dJx4a65c_add_9ea2d_0 : decode cJx4a65c_add_9ea2d 0 = .ok (.aload_n 0, 1) := by decide +kernel
theorem dJx4a65c_add_9ea2d_1 : decode cJx4a65c_add_9ea2d 1 = .ok (.dup, 1) := by decide +kernel
theorem dJx4a65c_add_9ea2d_2 : decode cJx4a65c_add_9ea2d 2 = .ok (.getfield 63, 3) := by decide +kernel
theorem dJx4a65c_add_9ea2d_5 : decode cJx4a65c_add_9ea2d 5 = .ok (.iconst 1, 1) := by decide +kernel
theorem dJx4a65c_add_9ea2d_6 : decode cJx4a65c_add_9ea2d 6 = .ok (.iadd, 1) := by decide +kernel
theorem dJx4a65c_add_9ea2d_7 : decode cJx4a65c_add_9ea2d 7 = .ok (.putfield 63, 3) := by decide +kernel
theorem dJx4a65c_add_9ea2d_10 : decode cJx4a65c_add_9ea2d 10 = .ok (.aload_n 0, 1) := by decide +kernel
theorem dJx4a65c_add_9ea2d_11 : decode cJx4a65c_add_9ea2d 11 = .ok (.aload_n 1, 1) := by decide +kernel
theorem dJx4a65c_add_9ea2d_12 : decode cJx4a65c_add_9ea2d 12 = .ok (.aload_n 0, 1) := by decide +kernel
theorem dJx4a65c_add_9ea2d_13 : decode cJx4a65c_add_9ea2d 13 = .ok (.getfield 9, 3) := by decide +kernel
theorem dJx4a65c_add_9ea2d_16 : decode cJx4a65c_add_9ea2d 16 = .ok (.aload_n 0, 1) := by decide +kernel
theorem dJx4a65c_add_9ea2d_17 : decode cJx4a65c_add_9ea2d 17 = .ok (.getfield 48, 3) := by decide +kernel
theorem dJx4a65c_add_9ea2d_20 : decode cJx4a65c_add_9ea2d 20 = .ok (.invokevirtual 131, 3) := by decide +kernel
theorem dJx4a65c_add_9ea2d_23 : decode cJx4a65c_add_9ea2d 23 = .ok (.iconst 1, 1) := by decide +kernel
theorem dJx4a65c_add_9ea2d_24 : decode cJx4a65c_add_9ea2d 24 = .ok (.ireturn, 1) := by decide +kernel
set_option maxRecDepth 20000 in
theorem ggJ7_copyOf_1904c_J7_copyOf_6403c : GoodIn wsJ7_copyOf_1904c wsJ7_copyOf_6403c := goodIn_r _ [8, 9, 10, 11, 12, 13, 14, 15, 16, 17, 18] (by decide +kernel) (by decide +kernel)
set_option maxRecDepth 20000 in
theorem gJ7_copyOf_1904c_J7_copyOf_6403c : GoodIn wsJ7_copyOf_1904c (va_wsS RJ7 300 yJ7_copyOf_6403c wsJ7_copyOf_6403c) := goodIn_app (goodIn_of _ (by decide +kernel)) ggJ7_copyOf_1904c_J7_copyOf_6403c
theorem dJ7_copyOf_1904c_0 : decode cJ7_copyOf_1904c 0 = .ok (.aload_n 0, 1) := by decide +kernel
theorem dJ7_copyOf_1904c_1 : decode cJ7_copyOf_1904c 1 = .ok (.iload_n 1, 1) := by decide +kernel
theorem dJ7_copyOf_1904c_2 : decode cJ7_copyOf_1904c 2 = .ok (.aload_n 0, 1) := by decide +kernel
theorem dJ7_copyOf_1904c_3 : decode cJ7_copyOf_1904c 3 = .ok (.invokevirtual 86, 3) := by decide +kernel
theorem dJ7_copyOf_1904c_6 : decode cJ7_copyOf_1904c 6 = .ok (.invokestatic 300, 3) := by decide +kernel
theorem dJ7_copyOf_1904c_9 : decode cJ7_copyOf_1904c 9 = .ok (.areturn, 1) := by decide +kernel
theorem dJ7_copyOf_6403c_0 : decode cJ7_copyOf_6403c 0 = .ok (.aload_n 2, 1) := by decide +kernel
theorem dJ7_copyOf_6403c_1 : decode cJ7_copyOf_6403c 1 = .ok (.ldc 110, 2) := by decide +kernel
theorem dJ7_copyOf_6403c_3 : decode cJ7_copyOf_6403c 3 = .ok (.if_acmp .ne 10, 3) := by decide +kernel
theorem dJ7_copyOf_6403c_6 : decode cJ7_copyOf_6403c 6 = .ok (.iload_n 1, 1) := by decide +kernel
theorem dJ7_copyOf_6403c_7 : decode cJ7_copyOf_6403c 7 = .ok (.anewarray 2, 3) := by decide +kernel
theorem dJ7_copyOf_6403c_10 : decode cJ7_copyOf_6403c 10 = .ok (.goto 14, 3) := by decide +kernel
theorem dJ7_copyOf_6403c_13 : decode cJ7_copyOf_6403c 13 = .ok (.aload_n 2, 1) := by decide +kernel
theorem dJ7_copyOf_6403c_14 : decode cJ7_copyOf_6403c 14 = .ok (.invokevirtual 90, 3) := by decide +kernel
theorem dJ7_copyOf_6403c_17 : decode cJ7_copyOf_6403c 17 = .ok (.iload_n 1, 1) := by decide +kernel
theorem dJ7_copyOf_6403c_18 : decode cJ7_copyOf_6403c 18 = .ok (.invokestatic 95, 3) := by decide +kernel
theorem dJ7_copyOf_6403c_21 : decode cJ7_copyOf_6403c 21 = .ok (.checkcast 110, 3) := by decide +kernel
theorem dJ7_copyOf_6403c_24 : decode cJ7_copyOf_6403c 24 = .ok (.astore_n 3, 1) := by decide +kernel
theorem dJ7_copyOf_6403c_25 : decode cJ7_copyOf_6403c 25 = .ok (.aload_n 0, 1) := by decide +kernel
theorem dJ7_copyOf_6403c_26 : decode cJ7_copyOf_6403c 26 = .ok (.iconst 0, 1) := by decide +kernel
theorem dJ7_copyOf_6403c_27 : decode cJ7_copyOf_6403c 27 = .ok (.aload_n 3, 1) := by decide +kernel
theorem dJ7_copyOf_6403c_28 : decode cJ7_copyOf_6403c 28 = .ok (.iconst 0, 1) := by decide +kernel
theorem dJ7_copyOf_6403c_29 : decode cJ7_copyOf_6403c 29 = .ok (.aload_n 0, 1) := by decide +kernel
theorem dJ7_copyOf_6403c_30 : decode cJ7_copyOf_6403c 30 = .ok (.arraylength, 1) := by decide +kernel
theorem dJ7_copyOf_6403c_31 : decode cJ7_copyOf_6403c 31 = .ok (.iload_n 1, 1) := by decide +kernel
theorem dJ7_copyOf_6403c_32 : decode cJ7_copyOf_6403c 32 = .ok (.invokestatic 304, 3) := by decide +kernel
theorem dJ7_copyOf_6403c_35 : decode cJ7_copyOf_6403c 35 = .ok (.invokestatic 150, 3) := by decide +kernel
theorem dJ7_copyOf_6403c_38 : decode cJ7_copyOf_6403c 38 = .ok (.aload_n 3, 1) := by decide +kernel
theorem dJ7_copyOf_6403c_39 : decode cJ7_copyOf_6403c 39 = .ok (.areturn, 1) := by decide +kernel
set_option maxRecDepth 20000 in
theorem ggJ15_checkIndex_7cf53_J3_checkIndex_8e157 : GoodIn wsJ15_checkIndex_7cf53 wsJ3_checkIndex_8e157 := goodIn_r _ [4] (by decide +kernel) (by decide +kernel)
set_option maxRecDepth 20000 in
theorem gJ15_checkIndex_7cf53_J3_checkIndex_8e157 : GoodIn wsJ15_checkIndex_7cf53 (va_wsS RJ15 105 yJ3_checkIndex_8e157 wsJ3_checkIndex_8e157) := goodIn_app (goodIn_of _ (by decide +kernel)) ggJ15_checkIndex_7cf53_J3_checkIndex_8e157
theorem dJ15_checkIndex_7cf53_0 : decode cJ15_checkIndex_7cf53 0 = .ok (.iload_n 0, 1) := by decide +kernel
theorem dJ15_checkIndex_7cf53_1 : decode cJ15_checkIndex_7cf53 1 = .ok (.iload_n 1, 1) := by decide +kernel
theorem dJ15_checkIndex_7cf53_2 : decode cJ15_checkIndex_7cf53 2 = .ok (.aconst_null, 1) := by decide +kernel
theorem dJ15_checkIndex_7cf53_3 : decode cJ15_checkIndex_7cf53 3 = .ok (.invokestatic 105, 3) := by decide +kernel
theorem dJ15_checkIndex_7cf53_6 : decode cJ15_checkIndex_7cf53 6 = .ok (.ireturn, 1) := by decide +kernel
set_option maxRecDepth 20000 in
theorem ggJ8_newLength_cabcc_J8_hugeLength_7cf53 : GoodIn wsJ8_newLength_cabcc wsJ8_hugeLength_7cf53 := goodIn_r _ [9, 5] (by decide +kernel) (by decide +kernel)
set_option maxRecDepth 20000 in
theorem gJ8_newLength_cabcc_J8_hugeLength_7cf53 : GoodIn wsJ8_newLength_cabcc (va_wsS RJ8 201 yJ8_hugeLength_7cf53 wsJ8_hugeLength_7cf53) := goodIn_app (goodIn_of _ (by decide +kernel)) ggJ8_newLength_cabcc_J8_hugeLength_7cf53
theorem dJ8_newLength_cabcc_0 : decode cJ8_newLength_cabcc 0 = .ok (.iload_n 0, 1) := by decide +kernel
theorem dJ8_newLength_cabcc_1 : decode cJ8_newLength_cabcc 1 = .ok (.iload_n 1, 1) := by decide +kernel
theorem dJ8_newLength_cabcc_2 : decode cJ8_newLength_cabcc 2 = .ok (.iload_n 2, 1) := by decide +kernel
theorem dJ8_newLength_cabcc_3 : decode cJ8_newLength_cabcc 3 = .ok (.invokestatic 194, 3) := by decide +kernel
theorem dJ8_newLength_cabcc_6 : decode cJ8_newLength_cabcc 6 = .ok (.iadd, 1) := by decide +kernel
theorem dJ8_newLength_cabcc_7 : decode cJ8_newLength_cabcc 7 = .ok (.istore_n 3, 1) := by decide +kernel
theorem dJ8_newLength_cabcc_8 : decode cJ8_newLength_cabcc 8 = .ok (.iconst 0, 1) := by decide +kernel
theorem dJ8_newLength_cabcc_9 : decode cJ8_newLength_cabcc 9 = .ok (.iload_n 3, 1) := by decide +kernel
theorem dJ8_newLength_cabcc_10 : decode cJ8_newLength_cabcc 10 = .ok (.if_icmp .ge 11, 3) := by decide +kernel
theorem dJ8_newLength_cabcc_13 : decode cJ8_newLength_cabcc 13 = .ok (.iload_n 3, 1) := by decide +kernel
theorem dJ8_newLength_cabcc_14 : decode cJ8_newLength_cabcc 14 = .ok (.ldc 200, 2) := by decide +kernel
theorem dJ8_newLength_cabcc_16 : decode cJ8_newLength_cabcc 16 = .ok (.if_icmp .gt 5, 3) := by decide +kernel
theorem dJ8_newLength_cabcc_19 : decode cJ8_newLength_cabcc 19 = .ok (.iload_n 3, 1) := by decide +kernel
theorem dJ8_newLength_cabcc_20 : decode cJ8_newLength_cabcc 20 = .ok (.ireturn, 1) := by decide +kernel
theorem dJ8_newLength_cabcc_21 : decode cJ8_newLength_cabcc 21 = .ok (.iload_n 0, 1) := by decide +kernel
theorem dJ8_newLength_cabcc_22 : decode cJ8_newLength_cabcc 22 = .ok (.iload_n 1, 1) := by decide +kernel
theorem dJ8_newLength_cabcc_23 : decode cJ8_newLength_cabcc 23 = .ok (.invokestatic 201, 3) := by decide +kernel
theorem dJ8_newLength_cabcc_26 : decode cJ8_newLength_cabcc 26 = .ok (.ireturn, 1) := by decide +kernel
theorem dJ8_hugeLength_7cf53_0 : decode cJ8_hugeLength_7cf53 0 = .ok (.iload_n 0, 1) := by decide +kernel
theorem dJ8_hugeLength_7cf53_1 : decode cJ8_hugeLength_7cf53 1 = .ok (.iload_n 1, 1) := by decide +kernel
theorem dJ8_hugeLength_7cf53_2 : decode cJ8_hugeLength_7cf53 2 = .ok (.iadd, 1) := by decide +kernel
theorem dJ8_hugeLength_7cf53_3 : decode cJ8_hugeLength_7cf53 3 = .ok (.istore_n 2, 1) := by decide +kernel
theorem dJ8_hugeLength_7cf53_4 : decode cJ8_hugeLength_7cf53 4 = .ok (.iload_n 2, 1) := by decide +kernel
theorem dJ8_hugeLength_7cf53_5 : decode cJ8_hugeLength_7cf53 5 = .ok (.ifCond .ge 44, 3) := by decide +kernel
theorem dJ8_hugeLength_7cf53_8 : decode cJ8_hugeLength_7cf53 8 = .ok (.new 204, 3) := by decide +kernel
theorem dJ8_hugeLength_7cf53_11 : decode cJ8_hugeLength_7cf53 11 = .ok (.dup, 1) := by decide +kernel
theorem dJ8_hugeLength_7cf53_12 : decode cJ8_hugeLength_7cf53 12 = .ok (.new 89, 3) := by decide +kernel
theorem dJ8_hugeLength_7cf53_15 : decode cJ8_hugeLength_7cf53 15 = .ok (.dup, 1) := by decide +kernel
theorem dJ8_hugeLength_7cf53_16 : decode cJ8_hugeLength_7cf53 16 = .ok (.invokespecial 91, 3) := by decide +kernel
theorem dJ8_hugeLength_7cf53_19 : decode cJ8_hugeLength_7cf53 19 = .ok (.ldc 206, 2) := by decide +kernel
theorem dJ8_hugeLength_7cf53_21 : decode cJ8_hugeLength_7cf53 21 = .ok (.invokevirtual 94, 3) := by decide +kernel
theorem dJ8_hugeLength_7cf53_24 : decode cJ8_hugeLength_7cf53 24 = .ok (.iload_n 0, 1) := by decide +kernel
theorem dJ8_hugeLength_7cf53_25 : decode cJ8_hugeLength_7cf53 25 = .ok (.invokevirtual 98, 3) := by decide +kernel
theorem dJ8_hugeLength_7cf53_28 : decode cJ8_hugeLength_7cf53 28 = .ok (.ldc 208, 2) := by decide +kernel
theorem dJ8_hugeLength_7cf53_30 : decode cJ8_hugeLength_7cf53 30 = .ok (.invokevirtual 94, 3) := by decide +kernel
theorem dJ8_hugeLength_7cf53_33 : decode cJ8_hugeLength_7cf53 33 = .ok (.iload_n 1, 1) := by decide +kernel
theorem dJ8_hugeLength_7cf53_34 : decode cJ8_hugeLength_7cf53 34 = .ok (.invokevirtual 98, 3) := by decide +kernel
theorem dJ8_hugeLength_7cf53_37 : decode cJ8_hugeLength_7cf53 37 = .ok (.ldc 210, 2) := by decide +kernel
theorem dJ8_hugeLength_7cf53_39 : decode cJ8_hugeLength_7cf53 39 = .ok (.invokevirtual 94, 3) := by decide +kernel
theorem dJ8_hugeLength_7cf53_42 : decode cJ8_hugeLength_7cf53 42 = .ok (.invokevirtual 101, 3) := by decide +kernel
theorem dJ8_hugeLength_7cf53_45 : decode cJ8_hugeLength_7cf53 45 = .ok (.invokespecial 212, 3) := by decide +kernel
theorem dJ8_hugeLength_7cf53_48 : decode cJ8_hugeLength_7cf53 48 = .ok (.athrow, 1) := by decide +kernel
theorem dJ8_hugeLength_7cf53_49 : decode cJ8_hugeLength_7cf53 49 = .ok (.iload_n 2, 1) := by decide +kernel
theorem dJ8_hugeLength_7cf53_50 : decode cJ8_hugeLength_7cf53 50 = .ok (.ldc 200, 2) := by decide +kernel
theorem dJ8_hugeLength_7cf53_52 : decode cJ8_hugeLength_7cf53 52 = .ok (.if_icmp .gt 6, 3) := by decide +kernel
theorem dJ8_hugeLength_7cf53_55 : decode cJ8_hugeLength_7cf53 55 = .ok (.ldc 200, 2) := by decide +kernel
theorem dJ8_hugeLength_7cf53_57 : decode cJ8_hugeLength_7cf53 57 = .ok (.ireturn, 1) := by decide +kernel
theorem dJ8_hugeLength_7cf53_58 : decode cJ8_hugeLength_7cf53 58 = .ok (.iload_n 2, 1) := by decide +kernel
theorem dJ8_hugeLength_7cf53_59 : decode cJ8_hugeLength_7cf53 59 = .ok (.ireturn, 1) := by decide +kernel
theorem dJ3_checkIndex_8e157_0 : decode cJ3_checkIndex_8e157 0 = .ok (.iload_n 0, 1) := by decide +kernel
theorem dJ3_checkIndex_8e157_1 : decode cJ3_checkIndex_8e157 1 = .ok (.ifCond .lt 8, 3) := by decide +kernel
theorem dJ3_checkIndex_8e157_4 : decode cJ3_checkIndex_8e157 4 = .ok (.iload_n 0, 1) := by decide +kernel
theorem dJ3_checkIndex_8e157_5 : decode cJ3_checkIndex_8e157 5 = .ok (.iload_n 1, 1) := by decide +kernel
theorem dJ3_checkIndex_8e157_6 : decode cJ3_checkIndex_8e157 6 = .ok (.if_icmp .lt 10, 3) := by decide +kernel
theorem dJ3_checkIndex_8e157_9 : decode cJ3_checkIndex_8e157 9 = .ok (.aload_n 2, 1) := by decide +kernel
theorem dJ3_checkIndex_8e157_10 : decode cJ3_checkIndex_8e157 10 = .ok (.iload_n 0, 1) := by decide +kernel
theorem dJ3_checkIndex_8e157_11 : decode cJ3_checkIndex_8e157 11 = .ok (.iload_n 1, 1) := by decide +kernel
theorem dJ3_checkIndex_8e157_12 : decode cJ3_checkIndex_8e157 12 = .ok (.invokestatic 95, 3) := by decide +kernel
theorem dJ3_checkIndex_8e157_15 : decode cJ3_checkIndex_8e157 15 = .ok (.athrow, 1) := by decide +kernel
theorem dJ3_checkIndex_8e157_16 : decode cJ3_checkIndex_8e157 16 = .ok (.iload_n 0, 1) := by decide +kernel
theorem dJ3_checkIndex_8e157_17 : decode cJ3_checkIndex_8e157 17 = .ok (.ireturn, 1) := by decide +kernel
theorem dL_cell_0 : decode cL_cell 0 = .ok (.iload_n 1, 1) := by decide +kernel
theorem dL_cell_1 : decode cL_cell 1 = .ok (.aload_n 0, 1) := by decide +kernel
theorem dL_cell_2 : decode cL_cell 2 = .ok (.arraylength, 1) := by decide +kernel
theorem dL_cell_3 : decode cL_cell 3 = .ok (.if_icmp .ge 9, 3) := by decide +kernel
theorem dL_cell_6 : decode cL_cell 6 = .ok (.aload_n 0, 1) := by decide +kernel
theorem dL_cell_7 : decode cL_cell 7 = .ok (.iload_n 1, 1) := by decide +kernel
theorem dL_cell_8 : decode cL_cell 8 = .ok (.iaload, 1) := by decide +kernel
theorem dL_cell_9 : decode cL_cell 9 = .ok (.goto 9, 3) := by decide +kernel
theorem dL_cell_12 : decode cL_cell 12 = .ok (.ldc 7, 2) := by decide +kernel
theorem dL_cell_14 : decode cL_cell 14 = .ok (.iload_n 1, 1) := by decide +kernel
theorem dL_cell_15 : decode cL_cell 15 = .ok (.iconst 1, 1) := by decide +kernel
theorem dL_cell_16 : decode cL_cell 16 = .ok (.iadd, 1) := by decide +kernel
theorem dL_cell_17 : decode cL_cell 17 = .ok (.imul, 1) := by decide +kernel
theorem dL_cell_18 : decode cL_cell 18 = .ok (.ireturn, 1) := by decide +kernel
theorem dL_at_0 : decode cL_at 0 = .ok (.iload_n 0, 1) := by decide +kernel
theorem dL_at_1 : decode cL_at 1 = .ok (.iconst 1, 1) := by decide +kernel
theorem dL_at_2 : decode cL_at 2 = .ok (.iushr, 1) := by decide +kernel
theorem dL_at_3 : decode cL_at 3 = .ok (.iload_n 1, 1) := by decide +kernel
theorem dL_at_4 : decode cL_at 4 = .ok (.irem, 1) := by decide +kernel
theorem dL_at_5 : decode cL_at 5 = .ok (.ireturn, 1) := by decide +kernel
set_option maxRecDepth 20000 in
theorem ggL_pools_X2_year : GoodIn wsL_pools wsX2_year := goodIn_r _ [5, 6, 160, 161, 162, 163, 164] (by decide +kernel) (by decide +kernel)
set_option maxRecDepth 20000 in
theorem gL_pools_X2_year : GoodIn wsL_pools (wsV RL 8 RX2 yX2_year wsX2_year) := goodIn_app (goodIn_of _ (by decide +kernel)) ggL_pools_X2_year
set_option maxRecDepth 20000 in
theorem ggL_pools_X2_profit : GoodIn wsL_pools wsX2_profit := goodIn_ca (goodIn_ca (goodIn_r _ [10, 6, 11, 12, 13, 4, 14, 15, 16, 17, 18, 19, 20, 21, 22, 23, 24, 25, 26, 27, 28, 29, 30, 31, 32, 33, 34, 35, 36, 37, 38, 39, 40, 41, 42, 43, 44, 45, 46, 47, 48, 49, 50, 51, 52, 53, 54, 55, 56, 57, 58, 59, 60, 61, 62, 63, 64, 65, 66, 67, 68, 69, 70, 71, 72, 73, 74, 75, 76, 77, 78, 79, 80, 81, 82, 83, 84, 85, 86, 87, 88, 89, 90, 91, 92, 93, 94, 95, 96, 97, 98, 99, 100, 101, 102, 103, 104, 105, 106, 107, 108, 109, 110, 111, 112, 113, 114, 115, 116, 117, 118, 119, 120, 121, 122, 123, 160, 161, 162, 163, 164, 165, 166, 167, 168, 169, 170, 171, 172, 173, 174, 175, 176, 177, 178, 179, 180, 181, 182, 183, 184, 185, 186, 187, 188, 189] (by decide +kernel) (by decide +kernel)) (goodIn_sub (fun _ h => List.mem_cons_of_mem _ (List.mem_append_left _ (List.mem_append_right _ h))) (by decide +kernel))) (goodIn_sub (fun _ h => List.mem_cons_of_mem _ (List.mem_append_right _ h)) (by decide +kernel))
set_option maxRecDepth 20000 in
theorem gL_pools_X2_profit : GoodIn wsL_pools (wsV RL 14 RX2 yX2_profit wsX2_profit) := goodIn_app (goodIn_of _ (by decide +kernel)) ggL_pools_X2_profit
set_option maxRecDepth 20000 in
theorem ggL_pools_X2_sum : GoodIn wsL_pools wsX2_sum := goodIn_ca (goodIn_r _ [127, 128, 129, 130, 131, 132, 4, 133, 15, 16, 134, 68, 69, 70, 71, 72, 135, 74, 75, 76, 77, 78, 79, 80, 81, 82, 83, 84, 85, 86, 87, 88, 89, 136, 137, 138, 139, 140, 22, 23, 24, 25, 26, 27, 6, 28, 29, 30, 31, 32, 33, 34, 35, 36, 37, 38, 39, 40, 41, 42, 43, 44, 45, 46, 47, 48, 49, 50, 51, 52, 53, 54, 55, 56, 57, 58, 59, 60, 61, 62, 63, 64, 65, 66, 67, 73, 90, 91, 92, 93, 94, 95, 96, 97, 98, 99, 100, 101, 102, 103, 104, 105, 106, 107, 108, 109, 110, 111, 112, 113, 114, 115, 116, 117, 118, 119, 141, 142, 143, 144, 145, 146, 147, 148, 149, 150, 151, 152, 153, 154, 160, 161, 162, 163, 164, 187, 188, 189, 180, 181, 182, 183, 184, 185, 186, 165, 166, 167, 168, 169, 170, 171, 172, 173, 174, 175, 176, 177, 178, 179] (by decide +kernel) (by decide +kernel)) (goodIn_sub (fun _ h => List.mem_cons_of_mem _ (List.mem_append_left _ (List.mem_append_right _ h))) (by decide +kernel))
set_option maxRecDepth 20000 in
theorem gL_pools_X2_sum : GoodIn wsL_pools (wsV RL 18 RX2 yX2_sum wsX2_sum) := goodIn_app (goodIn_of _ (by decide +kernel)) ggL_pools_X2_sum
set_option maxRecDepth 20000 in
theorem ggL_pools_X2_pool : GoodIn wsL_pools wsX2_pool := goodIn_ca (goodIn_r _ [158, 12, 13, 4, 14, 15, 16, 22, 23, 24, 25, 26, 27, 6, 28, 29, 30, 31, 32, 33, 34, 35, 36, 37, 38, 39, 40, 41, 42, 43, 44, 45, 46, 47, 48, 49, 50, 51, 52, 53, 54, 55, 56, 57, 58, 59, 60, 61, 62, 63, 64, 65, 66, 67, 68, 69, 70, 71, 72, 73, 74, 75, 76, 77, 78, 79, 80, 81, 82, 83, 84, 85, 86, 87, 88, 89, 90, 91, 92, 93, 94, 95, 96, 97, 98, 99, 100, 101, 102, 103, 104, 105, 106, 107, 108, 109, 110, 111, 112, 113, 114, 115, 116, 117, 118, 119, 120, 121, 122, 123, 159, 148, 149, 150, 151, 152, 153, 154, 145, 160, 161, 162, 163, 164, 165, 166, 167, 168, 169, 170, 171, 172, 173, 174, 175, 176, 177, 178, 179, 180, 181, 182, 183, 184, 185, 186, 187, 188, 189] (by decide +kernel) (by decide +kernel)) (goodIn_sub (fun _ h => List.mem_cons_of_mem _ (List.mem_append_left _ (List.mem_append_right _ h))) (by decide +kernel))
set_option maxRecDepth 20000 in
theorem gL_pools_X2_pool : GoodIn wsL_pools (wsV RL 22 RX2 yX2_pool wsX2_pool) := goodIn_app (goodIn_of _ (by decide +kernel)) ggL_pools_X2_pool
theorem dL_pools_0 : decode cL_pools 0 = .ok (.iconst 0, 1) := by decide +kernel
theorem dL_pools_1 : decode cL_pools 1 = .ok (.istore 5, 2) := by decide +kernel
theorem dL_pools_3 : decode cL_pools 3 = .ok (.iload 5, 2) := by decide +kernel
theorem dL_pools_5 : decode cL_pools 5 = .ok (.iconst 2, 1) := by decide +kernel
theorem dL_pools_6 : decode cL_pools 6 = .ok (.if_icmp .ge 152, 3) := by decide +kernel
theorem dL_pools_9 : decode cL_pools 9 = .ok (.aload_n 0, 1) := by decide +kernel
theorem dL_pools_10 : decode cL_pools 10 = .ok (.iload 5, 2) := by decide +kernel
theorem dL_pools_12 : decode cL_pools 12 = .ok (.aload_n 0, 1) := by decide +kernel
theorem dL_pools_13 : decode cL_pools 13 = .ok (.invokevirtual 8, 3) := by decide +kernel
theorem dL_pools_16 : decode cL_pools 16 = .ok (.invokevirtual 14, 3) := by decide +kernel
theorem dL_pools_19 : decode cL_pools 19 = .ok (.istore 6, 2) := by decide +kernel
theorem dL_pools_21 : decode cL_pools 21 = .ok (.iconst 0, 1) := by decide +kernel
theorem dL_pools_22 : decode cL_pools 22 = .ok (.istore 7, 2) := by decide +kernel
theorem dL_pools_24 : decode cL_pools 24 = .ok (.iconst 0, 1) := by decide +kernel
theorem dL_pools_25 : decode cL_pools 25 = .ok (.istore 8, 2) := by decide +kernel
theorem dL_pools_27 : decode cL_pools 27 = .ok (.iload 8, 2) := by decide +kernel
theorem dL_pools_29 : decode cL_pools 29 = .ok (.aload 4, 2) := by decide +kernel
theorem dL_pools_31 : decode cL_pools 31 = .ok (.iconst 0, 1) := by decide +kernel
theorem dL_pools_32 : decode cL_pools 32 = .ok (.iaload, 1) := by decide +kernel
theorem dL_pools_33 : decode cL_pools 33 = .ok (.if_icmp .ge 94, 3) := by decide +kernel
theorem dL_pools_36 : decode cL_pools 36 = .ok (.aload_n 2, 1) := by decide +kernel
theorem dL_pools_37 : decode cL_pools 37 = .ok (.iload 8, 2) := by decide +kernel
theorem dL_pools_39 : decode cL_pools 39 = .ok (.iaload, 1) := by decide +kernel
theorem dL_pools_40 : decode cL_pools 40 = .ok (.iload 5, 2) := by decide +kernel
theorem dL_pools_42 : decode cL_pools 42 = .ok (.if_icmp .eq 6, 3) := by decide +kernel
theorem dL_pools_45 : decode cL_pools 45 = .ok (.goto 76, 3) := by decide +kernel
theorem dL_pools_48 : decode cL_pools 48 = .ok (.aload_n 0, 1) := by decide +kernel
theorem dL_pools_49 : decode cL_pools 49 = .ok (.iload 8, 2) := by decide +kernel
theorem dL_pools_51 : decode cL_pools 51 = .ok (.invokevirtual 18, 3) := by decide +kernel
theorem dL_pools_54 : decode cL_pools 54 = .ok (.istore 9, 2) := by decide +kernel
theorem dL_pools_56 : decode cL_pools 56 = .ok (.iload 9, 2) := by decide +kernel
theorem dL_pools_58 : decode cL_pools 58 = .ok (.ifCond .ge 5, 3) := by decide +kernel
theorem dL_pools_61 : decode cL_pools 61 = .ok (.iconst 0, 1) := by decide +kernel
theorem dL_pools_62 : decode cL_pools 62 = .ok (.ireturn, 1) := by decide +kernel
theorem dL_pools_63 : decode cL_pools 63 = .ok (.aload_n 1, 1) := by decide +kernel
theorem dL_pools_64 : decode cL_pools 64 = .ok (.iload 8, 2) := by decide +kernel
theorem dL_pools_66 : decode cL_pools 66 = .ok (.iaload, 1) := by decide +kernel
theorem dL_pools_67 : decode cL_pools 67 = .ok (.iconst 1, 1) := by decide +kernel
theorem dL_pools_68 : decode cL_pools 68 = .ok (.if_icmp .ne 10, 3) := by decide +kernel
theorem dL_pools_71 : decode cL_pools 71 = .ok (.iload 7, 2) := by decide +kernel
theorem dL_pools_73 : decode cL_pools 73 = .ok (.iload 9, 2) := by decide +kernel
theorem dL_pools_75 : decode cL_pools 75 = .ok (.iadd, 1) := by decide +kernel
theorem dL_pools_76 : decode cL_pools 76 = .ok (.istore 7, 2) := by decide +kernel
theorem dL_pools_78 : decode cL_pools 78 = .ok (.aload_n 1, 1) := by decide +kernel
theorem dL_pools_79 : decode cL_pools 79 = .ok (.iload 8, 2) := by decide +kernel
theorem dL_pools_81 : decode cL_pools 81 = .ok (.iaload, 1) := by decide +kernel
theorem dL_pools_82 : decode cL_pools 82 = .ok (.iconst 2, 1) := by decide +kernel
theorem dL_pools_83 : decode cL_pools 83 = .ok (.if_icmp .eq 6, 3) := by decide +kernel
theorem dL_pools_86 : decode cL_pools 86 = .ok (.goto 35, 3) := by decide +kernel
theorem dL_pools_89 : decode cL_pools 89 = .ok (.iload 9, 2) := by decide +kernel
theorem dL_pools_91 : decode cL_pools 91 = .ok (.iload 6, 2) := by decide +kernel
theorem dL_pools_93 : decode cL_pools 93 = .ok (.aload_n 3, 1) := by decide +kernel
theorem dL_pools_94 : decode cL_pools 94 = .ok (.iload 8, 2) := by decide +kernel
theorem dL_pools_96 : decode cL_pools 96 = .ok (.iaload, 1) := by decide +kernel
theorem dL_pools_97 : decode cL_pools 97 = .ok (.if_icmp .ge 8, 3) := by decide +kernel
theorem dL_pools_100 : decode cL_pools 100 = .ok (.iload 6, 2) := by decide +kernel
theorem dL_pools_102 : decode cL_pools 102 = .ok (.goto 7, 3) := by decide +kernel
theorem dL_pools_105 : decode cL_pools 105 = .ok (.aload_n 3, 1) := by decide +kernel
theorem dL_pools_106 : decode cL_pools 106 = .ok (.iload 8, 2) := by decide +kernel
theorem dL_pools_108 : decode cL_pools 108 = .ok (.iaload, 1) := by decide +kernel
theorem dL_pools_109 : decode cL_pools 109 = .ok (.if_icmp .eq 5, 3) := by decide +kernel
theorem dL_pools_112 : decode cL_pools 112 = .ok (.iconst 0, 1) := by decide +kernel
theorem dL_pools_113 : decode cL_pools 113 = .ok (.ireturn, 1) := by decide +kernel
theorem dL_pools_114 : decode cL_pools 114 = .ok (.iload 6, 2) := by decide +kernel
theorem dL_pools_116 : decode cL_pools 116 = .ok (.iload 9, 2) := by decide +kernel
theorem dL_pools_118 : decode cL_pools 118 = .ok (.isub, 1) := by decide +kernel
theorem dL_pools_119 : decode cL_pools 119 = .ok (.istore 6, 2) := by decide +kernel
theorem dL_pools_121 : decode cL_pools 121 = .ok (.iinc 8 1, 3) := by decide +kernel
theorem dL_pools_124 : decode cL_pools 124 = .ok (.goto (-97), 3) := by decide +kernel
theorem dL_pools_127 : decode cL_pools 127 = .ok (.aload_n 0, 1) := by decide +kernel
theorem dL_pools_128 : decode cL_pools 128 = .ok (.iload 5, 2) := by decide +kernel
theorem dL_pools_130 : decode cL_pools 130 = .ok (.invokevirtual 22, 3) := by decide +kernel
theorem dL_pools_133 : decode cL_pools 133 = .ok (.iload 6, 2) := by decide +kernel
theorem dL_pools_135 : decode cL_pools 135 = .ok (.if_icmp .ne 15, 3) := by decide +kernel
theorem dL_pools_138 : decode cL_pools 138 = .ok (.iload 6, 2) := by decide +kernel
theorem dL_pools_140 : decode cL_pools 140 = .ok (.ifCond .lt 10, 3) := by decide +kernel
theorem dL_pools_143 : decode cL_pools 143 = .ok (.iload 7, 2) := by decide +kernel
theorem dL_pools_145 : decode cL_pools 145 = .ok (.iload 6, 2) := by decide +kernel
theorem dL_pools_147 : decode cL_pools 147 = .ok (.if_icmp .le 5, 3) := by decide +kernel
theorem dL_pools_150 : decode cL_pools 150 = .ok (.iconst 0, 1) := by decide +kernel
theorem dL_pools_151 : decode cL_pools 151 = .ok (.ireturn, 1) := by decide +kernel
theorem dL_pools_152 : decode cL_pools 152 = .ok (.iinc 5 1, 3) := by decide +kernel
theorem dL_pools_155 : decode cL_pools 155 = .ok (.goto (-152), 3) := by decide +kernel
theorem dL_pools_158 : decode cL_pools 158 = .ok (.iconst 1, 1) := by decide +kernel
theorem dL_pools_159 : decode cL_pools 159 = .ok (.ireturn, 1) := by decide +kernel
set_option maxRecDepth 20000 in
theorem ggL_years_X2_year : GoodIn wsL_years wsX2_year := goodIn_r _ [5, 6, 144, 145, 146, 147, 148] (by decide +kernel) (by decide +kernel)
set_option maxRecDepth 20000 in
theorem gL_years_X2_year : GoodIn wsL_years (wsV RL 8 RX2 yX2_year wsX2_year) := goodIn_app (goodIn_of _ (by decide +kernel)) ggL_years_X2_year
set_option maxRecDepth 20000 in
theorem ggL_years_X2_profit : GoodIn wsL_years wsX2_profit := goodIn_ca (goodIn_ca (goodIn_r _ [10, 6, 11, 12, 13, 4, 14, 15, 16, 17, 18, 19, 20, 21, 22, 23, 24, 25, 26, 27, 28, 29, 30, 31, 32, 33, 34, 35, 36, 37, 38, 39, 40, 41, 42, 43, 44, 45, 46, 47, 48, 49, 50, 51, 52, 53, 54, 55, 56, 57, 58, 59, 60, 61, 62, 63, 64, 65, 66, 67, 68, 69, 70, 71, 72, 73, 74, 75, 76, 77, 78, 79, 80, 81, 82, 83, 84, 85, 86, 87, 88, 89, 90, 91, 92, 93, 94, 95, 96, 97, 98, 99, 100, 101, 102, 103, 104, 105, 106, 107, 108, 109, 110, 111, 112, 113, 114, 115, 116, 117, 118, 119, 120, 121, 122, 123, 144, 145, 146, 147, 148, 149, 150, 151, 152, 153, 154, 155, 156, 157, 158, 159, 160, 161, 162, 163, 164, 165, 166, 167, 168, 169, 170, 171, 172, 173] (by decide +kernel) (by decide +kernel)) (goodIn_sub (fun _ h => List.mem_cons_of_mem _ (List.mem_append_left _ (List.mem_append_right _ h))) (by decide +kernel))) (goodIn_sub (fun _ h => List.mem_cons_of_mem _ (List.mem_append_right _ h)) (by decide +kernel))
set_option maxRecDepth 20000 in
theorem gL_years_X2_profit : GoodIn wsL_years (wsV RL 14 RX2 yX2_profit wsX2_profit) := goodIn_app (goodIn_of _ (by decide +kernel)) ggL_years_X2_profit
set_option maxRecDepth 20000 in
theorem ggL_years_X2_balance : GoodIn wsL_years wsX2_balance := goodIn_ca (goodIn_ca (goodIn_r _ [127, 6, 128, 12, 13, 4, 14, 15, 16, 17, 18, 19, 20, 21, 22, 23, 24, 25, 26, 27, 28, 29, 30, 31, 32, 33, 34, 35, 36, 37, 38, 39, 40, 41, 42, 43, 44, 45, 46, 47, 48, 49, 50, 51, 52, 53, 54, 55, 56, 57, 58, 59, 60, 61, 62, 63, 64, 65, 66, 67, 68, 69, 70, 71, 72, 73, 74, 75, 76, 77, 78, 79, 80, 81, 82, 83, 84, 85, 86, 87, 88, 89, 90, 91, 92, 93, 94, 95, 96, 97, 98, 99, 100, 101, 102, 103, 104, 105, 106, 107, 108, 109, 110, 111, 112, 113, 114, 115, 116, 117, 118, 119, 120, 121, 122, 123, 144, 145, 146, 147, 148, 149, 150, 151, 152, 153, 154, 155, 156, 157, 158, 159, 160, 161, 162, 163, 164, 165, 166, 167, 168, 169, 170, 171, 172, 173] (by decide +kernel) (by decide +kernel)) (goodIn_sub (fun _ h => List.mem_cons_of_mem _ (List.mem_append_left _ (List.mem_append_right _ h))) (by decide +kernel))) (goodIn_sub (fun _ h => List.mem_cons_of_mem _ (List.mem_append_right _ h)) (by decide +kernel))
set_option maxRecDepth 20000 in
theorem gL_years_X2_balance : GoodIn wsL_years (wsV RL 25 RX2 yX2_balance wsX2_balance) := goodIn_app (goodIn_of _ (by decide +kernel)) ggL_years_X2_balance
set_option maxRecDepth 20000 in
theorem ggL_years_X2_adjusted : GoodIn wsL_years wsX2_adjusted := goodIn_ca (goodIn_r _ [132, 133, 12, 13, 4, 14, 15, 16, 22, 23, 24, 25, 26, 27, 6, 28, 29, 30, 31, 32, 33, 34, 35, 36, 37, 38, 39, 40, 41, 42, 43, 44, 45, 46, 47, 48, 49, 50, 51, 52, 53, 54, 55, 56, 57, 58, 59, 60, 61, 62, 63, 64, 65, 66, 67, 68, 69, 70, 71, 72, 73, 74, 75, 76, 77, 78, 79, 80, 81, 82, 83, 84, 85, 86, 87, 88, 89, 90, 91, 92, 93, 94, 95, 96, 97, 98, 99, 100, 101, 102, 103, 104, 105, 106, 107, 108, 109, 110, 111, 112, 113, 114, 115, 116, 117, 118, 119, 120, 121, 122, 123, 149, 150, 151, 152, 153, 154, 155, 156, 157, 158, 159, 160, 161, 162, 163, 144, 145, 146, 147, 148, 164, 165, 166, 167, 168, 169, 170, 171, 172, 173] (by decide +kernel) (by decide +kernel)) (goodIn_sub (fun _ h => List.mem_cons_of_mem _ (List.mem_append_left _ (List.mem_append_right _ h))) (by decide +kernel))
set_option maxRecDepth 20000 in
theorem gL_years_X2_adjusted : GoodIn wsL_years (wsV RL 28 RX2 yX2_adjusted wsX2_adjusted) := goodIn_app (goodIn_of _ (by decide +kernel)) ggL_years_X2_adjusted
set_option maxRecDepth 20000 in
theorem ggL_years_X2_gross : GoodIn wsL_years wsX2_gross := goodIn_ca (goodIn_r _ [137, 138, 12, 13, 4, 14, 15, 16, 22, 23, 24, 25, 26, 27, 6, 28, 29, 30, 31, 32, 33, 34, 35, 36, 37, 38, 39, 40, 41, 42, 43, 44, 45, 46, 47, 48, 49, 50, 51, 52, 53, 54, 55, 56, 57, 58, 59, 60, 61, 62, 63, 64, 65, 66, 67, 68, 69, 70, 71, 72, 73, 74, 75, 76, 77, 78, 79, 80, 81, 82, 83, 84, 85, 86, 87, 88, 89, 90, 91, 92, 93, 94, 95, 96, 97, 98, 99, 100, 101, 102, 103, 104, 105, 106, 107, 108, 109, 110, 111, 112, 113, 114, 115, 116, 117, 118, 119, 120, 121, 122, 123, 149, 150, 151, 152, 153, 154, 155, 156, 157, 158, 159, 160, 161, 162, 163, 144, 145, 146, 147, 148, 164, 165, 166, 167, 168, 169, 170, 171, 172, 173] (by decide +kernel) (by decide +kernel)) (goodIn_sub (fun _ h => List.mem_cons_of_mem _ (List.mem_append_left _ (List.mem_append_right _ h))) (by decide +kernel))
set_option maxRecDepth 20000 in
theorem gL_years_X2_gross : GoodIn wsL_years (wsV RL 31 RX2 yX2_gross wsX2_gross) := goodIn_app (goodIn_of _ (by decide +kernel)) ggL_years_X2_gross
set_option maxRecDepth 20000 in
theorem ggL_years_X2_fees : GoodIn wsL_years wsX2_fees := goodIn_ca (goodIn_r _ [142, 143, 12, 13, 4, 14, 15, 16, 22, 23, 24, 25, 26, 27, 6, 28, 29, 30, 31, 32, 33, 34, 35, 36, 37, 38, 39, 40, 41, 42, 43, 44, 45, 46, 47, 48, 49, 50, 51, 52, 53, 54, 55, 56, 57, 58, 59, 60, 61, 62, 63, 64, 65, 66, 67, 68, 69, 70, 71, 72, 73, 74, 75, 76, 77, 78, 79, 80, 81, 82, 83, 84, 85, 86, 87, 88, 89, 90, 91, 92, 93, 94, 95, 96, 97, 98, 99, 100, 101, 102, 103, 104, 105, 106, 107, 108, 109, 110, 111, 112, 113, 114, 115, 116, 117, 118, 119, 120, 121, 122, 123, 149, 150, 151, 152, 153, 154, 155, 156, 157, 158, 159, 160, 161, 162, 163, 144, 145, 146, 147, 148, 164, 165, 166, 167, 168, 169, 170, 171, 172, 173] (by decide +kernel) (by decide +kernel)) (goodIn_sub (fun _ h => List.mem_cons_of_mem _ (List.mem_append_left _ (List.mem_append_right _ h))) (by decide +kernel))
set_option maxRecDepth 20000 in
theorem gL_years_X2_fees : GoodIn wsL_years (wsV RL 34 RX2 yX2_fees wsX2_fees) := goodIn_app (goodIn_of _ (by decide +kernel)) ggL_years_X2_fees
theorem dL_years_0 : decode cL_years 0 = .ok (.iconst 0, 1) := by decide +kernel
theorem dL_years_1 : decode cL_years 1 = .ok (.istore_n 2, 1) := by decide +kernel
theorem dL_years_2 : decode cL_years 2 = .ok (.iload_n 2, 1) := by decide +kernel
theorem dL_years_3 : decode cL_years 3 = .ok (.iconst 2, 1) := by decide +kernel
theorem dL_years_4 : decode cL_years 4 = .ok (.if_icmp .ge 114, 3) := by decide +kernel
theorem dL_years_7 : decode cL_years 7 = .ok (.iconst 0, 1) := by decide +kernel
theorem dL_years_8 : decode cL_years 8 = .ok (.istore_n 3, 1) := by decide +kernel
theorem dL_years_9 : decode cL_years 9 = .ok (.iconst 0, 1) := by decide +kernel
theorem dL_years_10 : decode cL_years 10 = .ok (.istore 4, 2) := by decide +kernel
theorem dL_years_12 : decode cL_years 12 = .ok (.iload 4, 2) := by decide +kernel
theorem dL_years_14 : decode cL_years 14 = .ok (.aload_n 0, 1) := by decide +kernel
theorem dL_years_15 : decode cL_years 15 = .ok (.invokevirtual 8, 3) := by decide +kernel
theorem dL_years_18 : decode cL_years 18 = .ok (.if_icmp .gt 58, 3) := by decide +kernel
theorem dL_years_21 : decode cL_years 21 = .ok (.aload_n 0, 1) := by decide +kernel
theorem dL_years_22 : decode cL_years 22 = .ok (.iload_n 2, 1) := by decide +kernel
theorem dL_years_23 : decode cL_years 23 = .ok (.iload 4, 2) := by decide +kernel
theorem dL_years_25 : decode cL_years 25 = .ok (.invokevirtual 14, 3) := by decide +kernel
theorem dL_years_28 : decode cL_years 28 = .ok (.istore 5, 2) := by decide +kernel
theorem dL_years_30 : decode cL_years 30 = .ok (.aload_n 0, 1) := by decide +kernel
theorem dL_years_31 : decode cL_years 31 = .ok (.iload_n 2, 1) := by decide +kernel
theorem dL_years_32 : decode cL_years 32 = .ok (.iload 4, 2) := by decide +kernel
theorem dL_years_34 : decode cL_years 34 = .ok (.invokevirtual 25, 3) := by decide +kernel
theorem dL_years_37 : decode cL_years 37 = .ok (.istore 6, 2) := by decide +kernel
theorem dL_years_39 : decode cL_years 39 = .ok (.iload 6, 2) := by decide +kernel
theorem dL_years_41 : decode cL_years 41 = .ok (.ifCond .lt 24, 3) := by decide +kernel
theorem dL_years_44 : decode cL_years 44 = .ok (.iload 5, 2) := by decide +kernel
theorem dL_years_46 : decode cL_years 46 = .ok (.iload_n 3, 1) := by decide +kernel
theorem dL_years_47 : decode cL_years 47 = .ok (.if_icmp .lt 18, 3) := by decide +kernel
theorem dL_years_50 : decode cL_years 50 = .ok (.iload_n 1, 1) := by decide +kernel
theorem dL_years_51 : decode cL_years 51 = .ok (.ifCond .ne 16, 3) := by decide +kernel
theorem dL_years_54 : decode cL_years 54 = .ok (.iload 5, 2) := by decide +kernel
theorem dL_years_56 : decode cL_years 56 = .ok (.iload_n 3, 1) := by decide +kernel
theorem dL_years_57 : decode cL_years 57 = .ok (.if_icmp .le 10, 3) := by decide +kernel
theorem dL_years_60 : decode cL_years 60 = .ok (.iload 6, 2) := by decide +kernel
theorem dL_years_62 : decode cL_years 62 = .ok (.ifCond .eq 5, 3) := by decide +kernel
theorem dL_years_65 : decode cL_years 65 = .ok (.iconst 0, 1) := by decide +kernel
theorem dL_years_66 : decode cL_years 66 = .ok (.ireturn, 1) := by decide +kernel
theorem dL_years_67 : decode cL_years 67 = .ok (.iload 5, 2) := by decide +kernel
theorem dL_years_69 : decode cL_years 69 = .ok (.istore_n 3, 1) := by decide +kernel
theorem dL_years_70 : decode cL_years 70 = .ok (.iinc 4 1, 3) := by decide +kernel
theorem dL_years_73 : decode cL_years 73 = .ok (.goto (-61), 3) := by decide +kernel
theorem dL_years_76 : decode cL_years 76 = .ok (.aload_n 0, 1) := by decide +kernel
theorem dL_years_77 : decode cL_years 77 = .ok (.iload_n 2, 1) := by decide +kernel
theorem dL_years_78 : decode cL_years 78 = .ok (.invokevirtual 28, 3) := by decide +kernel
theorem dL_years_81 : decode cL_years 81 = .ok (.aload_n 0, 1) := by decide +kernel
theorem dL_years_82 : decode cL_years 82 = .ok (.iload_n 2, 1) := by decide +kernel
theorem dL_years_83 : decode cL_years 83 = .ok (.invokevirtual 31, 3) := by decide +kernel
theorem dL_years_86 : decode cL_years 86 = .ok (.if_icmp .gt 24, 3) := by decide +kernel
theorem dL_years_89 : decode cL_years 89 = .ok (.aload_n 0, 1) := by decide +kernel
theorem dL_years_90 : decode cL_years 90 = .ok (.iload_n 2, 1) := by decide +kernel
theorem dL_years_91 : decode cL_years 91 = .ok (.invokevirtual 34, 3) := by decide +kernel
theorem dL_years_94 : decode cL_years 94 = .ok (.aload_n 0, 1) := by decide +kernel
theorem dL_years_95 : decode cL_years 95 = .ok (.iload_n 2, 1) := by decide +kernel
theorem dL_years_96 : decode cL_years 96 = .ok (.invokevirtual 31, 3) := by decide +kernel
theorem dL_years_99 : decode cL_years 99 = .ok (.if_icmp .gt 11, 3) := by decide +kernel
theorem dL_years_102 : decode cL_years 102 = .ok (.aload_n 0, 1) := by decide +kernel
theorem dL_years_103 : decode cL_years 103 = .ok (.iload_n 2, 1) := by decide +kernel
theorem dL_years_104 : decode cL_years 104 = .ok (.invokevirtual 34, 3) := by decide +kernel
theorem dL_years_107 : decode cL_years 107 = .ok (.ifCond .ge 5, 3) := by decide +kernel
theorem dL_years_110 : decode cL_years 110 = .ok (.iconst 0, 1) := by decide +kernel
theorem dL_years_111 : decode cL_years 111 = .ok (.ireturn, 1) := by decide +kernel
theorem dL_years_112 : decode cL_years 112 = .ok (.iinc 2 1, 3) := by decide +kernel
theorem dL_years_115 : decode cL_years 115 = .ok (.goto (-113), 3) := by decide +kernel
theorem dL_years_118 : decode cL_years 118 = .ok (.iconst 1, 1) := by decide +kernel
theorem dL_years_119 : decode cL_years 119 = .ok (.ireturn, 1) := by decide +kernel
set_option maxRecDepth 20000 in
theorem ggL_paid_X2_owed : GoodIn wsL_paid wsX2_owed := goodIn_ca (goodIn_r _ [5, 6, 7, 8, 9, 10, 11, 4, 12, 13, 14, 15, 16, 17, 18, 19, 20, 21, 22, 23, 24, 25, 26, 27, 28, 29, 30, 31, 32, 33, 34, 35, 36, 37, 38, 39, 40, 41, 42, 43, 44, 45, 46, 47, 48, 49, 50, 51, 52, 53, 54, 55, 56, 57, 58, 59, 60, 61, 62, 63, 64, 65, 66, 67, 68, 69, 70, 71, 72, 73, 74, 75, 76, 77, 78, 79, 80, 81, 82, 83, 84, 85, 86, 87, 88, 89, 90, 91, 92, 93, 94, 95, 96, 97, 98, 99, 100, 101, 102, 103, 104, 105, 106, 107, 108, 109, 110, 111, 112, 113, 114, 115, 116, 117, 118, 119, 120, 121, 122, 123, 124, 125, 126, 127, 128, 129, 130, 131, 132, 133, 134, 149, 150, 151, 152, 153, 154, 155, 156, 157, 158, 159, 160, 161, 162, 163, 164, 165, 166, 167, 168, 169, 170, 171, 172, 173, 174, 175, 176, 177, 178] (by decide +kernel) (by decide +kernel)) (goodIn_sub (fun _ h => List.mem_cons_of_mem _ (List.mem_append_left _ (List.mem_append_right _ h))) (by decide +kernel))
set_option maxRecDepth 20000 in
theorem gL_paid_X2_owed : GoodIn wsL_paid (wsV RL 37 RX2 yX2_owed wsX2_owed) := goodIn_app (goodIn_of _ (by decide +kernel)) ggL_paid_X2_owed
set_option maxRecDepth 20000 in
theorem ggL_paid_X2_paid : GoodIn wsL_paid wsX2_paid := goodIn_ca (goodIn_r _ [138, 6, 7, 8, 9, 10, 11, 4, 12, 13, 14, 15, 16, 17, 18, 19, 20, 21, 22, 23, 24, 25, 26, 27, 28, 29, 30, 31, 32, 33, 34, 35, 36, 37, 149, 150, 151, 152, 153, 154, 155, 156, 157, 158, 159, 160, 161, 162, 163] (by decide +kernel) (by decide +kernel)) (goodIn_sub (fun _ h => List.mem_cons_of_mem _ (List.mem_append_left _ (List.mem_append_right _ h))) (by decide +kernel))
set_option maxRecDepth 20000 in
theorem gL_paid_X2_paid : GoodIn wsL_paid (wsV RL 40 RX2 yX2_paid wsX2_paid) := goodIn_app (goodIn_of _ (by decide +kernel)) ggL_paid_X2_paid
set_option maxRecDepth 20000 in
theorem ggL_paid_X2_sum : GoodIn wsL_paid wsX2_sum := goodIn_ca (goodIn_r _ [142, 6, 7, 9, 10, 11, 4, 12, 13, 14, 15, 16, 17, 18, 19, 20, 21, 22, 23, 24, 25, 26, 27, 28, 29, 30, 31, 32, 33, 34, 35, 36, 37, 38, 39, 40, 41, 42, 43, 44, 45, 46, 47, 48, 49, 50, 51, 52, 53, 54, 55, 56, 57, 58, 59, 60, 61, 62, 63, 64, 65, 66, 67, 68, 69, 70, 71, 72, 73, 74, 75, 76, 77, 78, 79, 80, 81, 82, 83, 84, 85, 86, 87, 88, 89, 90, 91, 92, 93, 94, 95, 96, 97, 98, 99, 100, 101, 102, 103, 104, 105, 106, 107, 108, 109, 110, 111, 112, 113, 114, 115, 116, 117, 118, 119, 120, 121, 122, 123, 124, 125, 126, 127, 128, 129, 130, 131, 132, 133, 134, 149, 150, 151, 152, 153, 161, 162, 163, 154, 155, 156, 157, 158, 159, 160, 164, 165, 166, 167, 168, 169, 170, 171, 172, 173, 174, 175, 176, 177, 178] (by decide +kernel) (by decide +kernel)) (goodIn_sub (fun _ h => List.mem_cons_of_mem _ (List.mem_append_left _ (List.mem_append_right _ h))) (by decide +kernel))
