theorem dX3_gross_34 : decode cX3_gross 34 = .ok (.iload_n 1, 1) := by decide +kernel
theorem dX3_gross_35 : decode cX3_gross 35 = .ok (.iload 4, 2) := by decide +kernel
theorem dX3_gross_37 : decode cX3_gross 37 = .ok (.invokevirtual 93, 3) := by decide +kernel
theorem dX3_gross_40 : decode cX3_gross 40 = .ok (.ladd, 1) := by decide +kernel
theorem dX3_gross_41 : decode cX3_gross 41 = .ok (.lstore_n 2, 1) := by decide +kernel
theorem dX3_gross_42 : decode cX3_gross 42 = .ok (.iinc 4 1, 3) := by decide +kernel
theorem dX3_gross_45 : decode cX3_gross 45 = .ok (.goto (-22), 3) := by decide +kernel
theorem dX3_gross_48 : decode cX3_gross 48 = .ok (.lload_n 2, 1) := by decide +kernel
theorem dX3_gross_49 : decode cX3_gross 49 = .ok (.l2i, 1) := by decide +kernel
theorem dX3_gross_50 : decode cX3_gross 50 = .ok (.ireturn, 1) := by decide +kernel
set_option maxRecDepth 20000 in
theorem ggX3_adjusted_X3_isPicture : GoodIn wsX3_adjusted wsX3_isPicture := goodIn_r _ [6, 7, 8, 5, 9] (by decide +kernel) (by decide +kernel)
set_option maxRecDepth 20000 in
theorem gX3_adjusted_X3_isPicture : GoodIn wsX3_adjusted (va_wsS RX3 64 yX3_isPicture wsX3_isPicture) := goodIn_app (goodIn_of _ (by decide +kernel)) ggX3_adjusted_X3_isPicture
set_option maxRecDepth 20000 in
theorem ggX3_adjusted_X3_fails : GoodIn wsX3_adjusted wsX3_fails := goodIn_r _ [13, 1, 28, 29, 30, 31, 32, 33, 34, 35, 36, 37, 38, 39, 40, 41, 42, 43, 44, 45, 46] (by decide +kernel) (by decide +kernel)
set_option maxRecDepth 20000 in
theorem gX3_adjusted_X3_fails : GoodIn wsX3_adjusted (wsV RX3 68 RX3 yX3_fails wsX3_fails) := goodIn_app (goodIn_of _ (by decide +kernel)) ggX3_adjusted_X3_fails
set_option maxRecDepth 20000 in
theorem ggX3_adjusted_X3_adjustedOf : GoodIn wsX3_adjusted wsX3_adjustedOf := goodIn_r _ [17, 18, 19, 20, 21, 22, 5, 23, 24, 25, 26, 27, 28, 29, 30, 31, 32, 33, 34, 35, 36, 37, 38, 39, 40, 41, 42, 43, 44, 45, 46] (by decide +kernel) (by decide +kernel)
set_option maxRecDepth 20000 in
theorem gX3_adjusted_X3_adjustedOf : GoodIn wsX3_adjusted (wsV RX3 99 RX3 yX3_adjustedOf wsX3_adjustedOf) := goodIn_app (goodIn_of _ (by decide +kernel)) ggX3_adjusted_X3_adjustedOf
theorem dX3_adjusted_0 : decode cX3_adjusted 0 = .ok (.aload_n 0, 1) := by decide +kernel
theorem dX3_adjusted_1 : decode cX3_adjusted 1 = .ok (.iconst 0, 1) := by decide +kernel
theorem dX3_adjusted_2 : decode cX3_adjusted 2 = .ok (.putfield 56, 3) := by decide +kernel
theorem dX3_adjusted_5 : decode cX3_adjusted 5 = .ok (.iload_n 1, 1) := by decide +kernel
theorem dX3_adjusted_6 : decode cX3_adjusted 6 = .ok (.invokestatic 64, 3) := by decide +kernel
theorem dX3_adjusted_9 : decode cX3_adjusted 9 = .ok (.ifCond .ne 9, 3) := by decide +kernel
theorem dX3_adjusted_12 : decode cX3_adjusted 12 = .ok (.aload_n 0, 1) := by decide +kernel
theorem dX3_adjusted_13 : decode cX3_adjusted 13 = .ok (.iconst 1, 1) := by decide +kernel
theorem dX3_adjusted_14 : decode cX3_adjusted 14 = .ok (.invokevirtual 68, 3) := by decide +kernel
theorem dX3_adjusted_17 : decode cX3_adjusted 17 = .ok (.ireturn, 1) := by decide +kernel
theorem dX3_adjusted_18 : decode cX3_adjusted 18 = .ok (.lconst 0, 1) := by decide +kernel
theorem dX3_adjusted_19 : decode cX3_adjusted 19 = .ok (.lstore_n 2, 1) := by decide +kernel
theorem dX3_adjusted_20 : decode cX3_adjusted 20 = .ok (.iconst 0, 1) := by decide +kernel
theorem dX3_adjusted_21 : decode cX3_adjusted 21 = .ok (.istore 4, 2) := by decide +kernel
theorem dX3_adjusted_23 : decode cX3_adjusted 23 = .ok (.iload 4, 2) := by decide +kernel
theorem dX3_adjusted_25 : decode cX3_adjusted 25 = .ok (.aload_n 0, 1) := by decide +kernel
theorem dX3_adjusted_26 : decode cX3_adjusted 26 = .ok (.getfield 85, 3) := by decide +kernel
theorem dX3_adjusted_29 : decode cX3_adjusted 29 = .ok (.if_icmp .gt 19, 3) := by decide +kernel
theorem dX3_adjusted_32 : decode cX3_adjusted 32 = .ok (.lload_n 2, 1) := by decide +kernel
theorem dX3_adjusted_33 : decode cX3_adjusted 33 = .ok (.aload_n 0, 1) := by decide +kernel
theorem dX3_adjusted_34 : decode cX3_adjusted 34 = .ok (.iload_n 1, 1) := by decide +kernel
theorem dX3_adjusted_35 : decode cX3_adjusted 35 = .ok (.iload 4, 2) := by decide +kernel
theorem dX3_adjusted_37 : decode cX3_adjusted 37 = .ok (.invokevirtual 99, 3) := by decide +kernel
theorem dX3_adjusted_40 : decode cX3_adjusted 40 = .ok (.ladd, 1) := by decide +kernel
theorem dX3_adjusted_41 : decode cX3_adjusted 41 = .ok (.lstore_n 2, 1) := by decide +kernel
theorem dX3_adjusted_42 : decode cX3_adjusted 42 = .ok (.iinc 4 1, 3) := by decide +kernel
theorem dX3_adjusted_45 : decode cX3_adjusted 45 = .ok (.goto (-22), 3) := by decide +kernel
theorem dX3_adjusted_48 : decode cX3_adjusted 48 = .ok (.lload_n 2, 1) := by decide +kernel
theorem dX3_adjusted_49 : decode cX3_adjusted 49 = .ok (.l2i, 1) := by decide +kernel
theorem dX3_adjusted_50 : decode cX3_adjusted 50 = .ok (.ireturn, 1) := by decide +kernel
set_option maxRecDepth 20000 in
theorem ggX3_fees_X3_isPicture : GoodIn wsX3_fees wsX3_isPicture := goodIn_r _ [6, 7, 8, 5, 9] (by decide +kernel) (by decide +kernel)
set_option maxRecDepth 20000 in
theorem gX3_fees_X3_isPicture : GoodIn wsX3_fees (va_wsS RX3 64 yX3_isPicture wsX3_isPicture) := goodIn_app (goodIn_of _ (by decide +kernel)) ggX3_fees_X3_isPicture
set_option maxRecDepth 20000 in
theorem ggX3_fees_X3_fails : GoodIn wsX3_fees wsX3_fails := goodIn_r _ [13, 1, 24, 25, 26, 27, 28, 29, 30, 31, 32, 33, 34, 35, 36, 37, 38, 39, 40, 41, 42] (by decide +kernel) (by decide +kernel)
set_option maxRecDepth 20000 in
theorem gX3_fees_X3_fails : GoodIn wsX3_fees (wsV RX3 68 RX3 yX3_fails wsX3_fails) := goodIn_app (goodIn_of _ (by decide +kernel)) ggX3_fees_X3_fails
set_option maxRecDepth 20000 in
theorem ggX3_fees_X3_feesOf : GoodIn wsX3_fees wsX3_feesOf := goodIn_r _ [17, 18, 19, 20, 21, 22, 5, 23, 24, 25, 26, 27, 28, 29, 30, 31, 32, 33, 34, 35, 36, 37, 38, 39, 40, 41, 42] (by decide +kernel) (by decide +kernel)
set_option maxRecDepth 20000 in
theorem gX3_fees_X3_feesOf : GoodIn wsX3_fees (wsV RX3 111 RX3 yX3_feesOf wsX3_feesOf) := goodIn_app (goodIn_of _ (by decide +kernel)) ggX3_fees_X3_feesOf
theorem dX3_fees_0 : decode cX3_fees 0 = .ok (.aload_n 0, 1) := by decide +kernel
theorem dX3_fees_1 : decode cX3_fees 1 = .ok (.iconst 0, 1) := by decide +kernel
theorem dX3_fees_2 : decode cX3_fees 2 = .ok (.putfield 56, 3) := by decide +kernel
theorem dX3_fees_5 : decode cX3_fees 5 = .ok (.iload_n 1, 1) := by decide +kernel
theorem dX3_fees_6 : decode cX3_fees 6 = .ok (.invokestatic 64, 3) := by decide +kernel
theorem dX3_fees_9 : decode cX3_fees 9 = .ok (.ifCond .ne 9, 3) := by decide +kernel
theorem dX3_fees_12 : decode cX3_fees 12 = .ok (.aload_n 0, 1) := by decide +kernel
theorem dX3_fees_13 : decode cX3_fees 13 = .ok (.iconst 1, 1) := by decide +kernel
theorem dX3_fees_14 : decode cX3_fees 14 = .ok (.invokevirtual 68, 3) := by decide +kernel
theorem dX3_fees_17 : decode cX3_fees 17 = .ok (.ireturn, 1) := by decide +kernel
theorem dX3_fees_18 : decode cX3_fees 18 = .ok (.lconst 0, 1) := by decide +kernel
theorem dX3_fees_19 : decode cX3_fees 19 = .ok (.lstore_n 2, 1) := by decide +kernel
theorem dX3_fees_20 : decode cX3_fees 20 = .ok (.iconst 0, 1) := by decide +kernel
theorem dX3_fees_21 : decode cX3_fees 21 = .ok (.istore 4, 2) := by decide +kernel
theorem dX3_fees_23 : decode cX3_fees 23 = .ok (.iload 4, 2) := by decide +kernel
theorem dX3_fees_25 : decode cX3_fees 25 = .ok (.aload_n 0, 1) := by decide +kernel
theorem dX3_fees_26 : decode cX3_fees 26 = .ok (.getfield 85, 3) := by decide +kernel
theorem dX3_fees_29 : decode cX3_fees 29 = .ok (.if_icmp .gt 19, 3) := by decide +kernel
theorem dX3_fees_32 : decode cX3_fees 32 = .ok (.lload_n 2, 1) := by decide +kernel
theorem dX3_fees_33 : decode cX3_fees 33 = .ok (.aload_n 0, 1) := by decide +kernel
theorem dX3_fees_34 : decode cX3_fees 34 = .ok (.iload_n 1, 1) := by decide +kernel
theorem dX3_fees_35 : decode cX3_fees 35 = .ok (.iload 4, 2) := by decide +kernel
theorem dX3_fees_37 : decode cX3_fees 37 = .ok (.invokevirtual 111, 3) := by decide +kernel
theorem dX3_fees_40 : decode cX3_fees 40 = .ok (.ladd, 1) := by decide +kernel
theorem dX3_fees_41 : decode cX3_fees 41 = .ok (.lstore_n 2, 1) := by decide +kernel
theorem dX3_fees_42 : decode cX3_fees 42 = .ok (.iinc 4 1, 3) := by decide +kernel
theorem dX3_fees_45 : decode cX3_fees 45 = .ok (.goto (-22), 3) := by decide +kernel
theorem dX3_fees_48 : decode cX3_fees 48 = .ok (.lload_n 2, 1) := by decide +kernel
theorem dX3_fees_49 : decode cX3_fees 49 = .ok (.l2i, 1) := by decide +kernel
theorem dX3_fees_50 : decode cX3_fees 50 = .ok (.ireturn, 1) := by decide +kernel
set_option maxRecDepth 20000 in
theorem ggX3_isYear_X3_isPicture : GoodIn wsX3_isYear wsX3_isPicture := goodIn_r _ [6, 7, 8, 5, 9] (by decide +kernel) (by decide +kernel)
set_option maxRecDepth 20000 in
theorem gX3_isYear_X3_isPicture : GoodIn wsX3_isYear (va_wsS RX3 64 yX3_isPicture wsX3_isPicture) := goodIn_app (goodIn_of _ (by decide +kernel)) ggX3_isYear_X3_isPicture
set_option maxRecDepth 20000 in
theorem ggX3_isYear_X3_in : GoodIn wsX3_isYear wsX3_in := goodIn_r _ [9] (by decide +kernel) (by decide +kernel)
set_option maxRecDepth 20000 in
theorem gX3_isYear_X3_in : GoodIn wsX3_isYear (va_wsS RX3 60 yX3_in wsX3_in) := goodIn_app (goodIn_of _ (by decide +kernel)) ggX3_isYear_X3_in
theorem dX3_isYear_0 : decode cX3_isYear 0 = .ok (.aload_n 0, 1) := by decide +kernel
theorem dX3_isYear_1 : decode cX3_isYear 1 = .ok (.iload_n 1, 1) := by decide +kernel
theorem dX3_isYear_2 : decode cX3_isYear 2 = .ok (.invokestatic 64, 3) := by decide +kernel
theorem dX3_isYear_5 : decode cX3_isYear 5 = .ok (.ifCond .ne 7, 3) := by decide +kernel
theorem dX3_isYear_8 : decode cX3_isYear 8 = .ok (.iconst 1, 1) := by decide +kernel
theorem dX3_isYear_9 : decode cX3_isYear 9 = .ok (.goto 20, 3) := by decide +kernel
theorem dX3_isYear_12 : decode cX3_isYear 12 = .ok (.iload_n 2, 1) := by decide +kernel
theorem dX3_isYear_13 : decode cX3_isYear 13 = .ok (.iconst 0, 1) := by decide +kernel
theorem dX3_isYear_14 : decode cX3_isYear 14 = .ok (.aload_n 0, 1) := by decide +kernel
theorem dX3_isYear_15 : decode cX3_isYear 15 = .ok (.getfield 85, 3) := by decide +kernel
theorem dX3_isYear_18 : decode cX3_isYear 18 = .ok (.invokestatic 60, 3) := by decide +kernel
theorem dX3_isYear_21 : decode cX3_isYear 21 = .ok (.ifCond .ne 7, 3) := by decide +kernel
theorem dX3_isYear_24 : decode cX3_isYear 24 = .ok (.iconst 2, 1) := by decide +kernel
theorem dX3_isYear_25 : decode cX3_isYear 25 = .ok (.goto 4, 3) := by decide +kernel
theorem dX3_isYear_28 : decode cX3_isYear 28 = .ok (.iconst 0, 1) := by decide +kernel
theorem dX3_isYear_29 : decode cX3_isYear 29 = .ok (.putfield 56, 3) := by decide +kernel
theorem dX3_isYear_32 : decode cX3_isYear 32 = .ok (.aload_n 0, 1) := by decide +kernel
theorem dX3_isYear_33 : decode cX3_isYear 33 = .ok (.getfield 56, 3) := by decide +kernel
theorem dX3_isYear_36 : decode cX3_isYear 36 = .ok (.ifCond .ne 7, 3) := by decide +kernel
theorem dX3_isYear_39 : decode cX3_isYear 39 = .ok (.iconst 1, 1) := by decide +kernel
theorem dX3_isYear_40 : decode cX3_isYear 40 = .ok (.goto 4, 3) := by decide +kernel
theorem dX3_isYear_43 : decode cX3_isYear 43 = .ok (.iconst 0, 1) := by decide +kernel
theorem dX3_isYear_44 : decode cX3_isYear 44 = .ok (.ireturn, 1) := by decide +kernel
set_option maxRecDepth 20000 in
theorem ggX3_balance_X3_isYear : GoodIn wsX3_balance wsX3_isYear := goodIn_r _ [6, 7, 8, 9, 10, 5, 11, 12, 13, 14, 63, 64, 65, 66, 67, 68, 69, 70, 71, 72, 73, 74, 75, 76, 77, 78, 79, 80, 81] (by decide +kernel) (by decide +kernel)
set_option maxRecDepth 20000 in
theorem gX3_balance_X3_isYear : GoodIn wsX3_balance (wsV RX3 131 RX3 yX3_isYear wsX3_isYear) := goodIn_app (goodIn_of _ (by decide +kernel)) ggX3_balance_X3_isYear
set_option maxRecDepth 20000 in
theorem ggX3_balance_X3_lay : GoodIn wsX3_balance wsX3_lay := goodIn_r _ [18, 7, 1, 19, 20, 21, 22, 23, 24, 25, 26, 27, 28, 29, 30, 31, 5, 32, 33, 34, 35, 36, 37, 38, 39, 40, 41, 42, 43, 44, 45, 46, 47, 48, 49, 50, 51, 52, 53, 54, 55, 56, 57, 58, 59, 60, 61, 62, 63, 64, 65, 66, 67, 68, 69, 70, 71, 72, 73, 74, 75, 76, 77, 78, 79, 80, 81] (by decide +kernel) (by decide +kernel)
set_option maxRecDepth 20000 in
theorem gX3_balance_X3_lay : GoodIn wsX3_balance (wsV RX3 118 RX3 yX3_lay wsX3_lay) := goodIn_app (goodIn_of _ (by decide +kernel)) ggX3_balance_X3_lay
theorem dX3_balance_0 : decode cX3_balance 0 = .ok (.aload_n 0, 1) := by decide +kernel
theorem dX3_balance_1 : decode cX3_balance 1 = .ok (.iload_n 1, 1) := by decide +kernel
theorem dX3_balance_2 : decode cX3_balance 2 = .ok (.iload_n 2, 1) := by decide +kernel
theorem dX3_balance_3 : decode cX3_balance 3 = .ok (.invokevirtual 131, 3) := by decide +kernel
theorem dX3_balance_6 : decode cX3_balance 6 = .ok (.ifCond .ne 5, 3) := by decide +kernel
theorem dX3_balance_9 : decode cX3_balance 9 = .ok (.iconst 0, 1) := by decide +kernel
theorem dX3_balance_10 : decode cX3_balance 10 = .ok (.ireturn, 1) := by decide +kernel
theorem dX3_balance_11 : decode cX3_balance 11 = .ok (.aload_n 0, 1) := by decide +kernel
theorem dX3_balance_12 : decode cX3_balance 12 = .ok (.invokevirtual 118, 3) := by decide +kernel
theorem dX3_balance_15 : decode cX3_balance 15 = .ok (.aload_n 0, 1) := by decide +kernel
theorem dX3_balance_16 : decode cX3_balance 16 = .ok (.getfield 46, 3) := by decide +kernel
theorem dX3_balance_19 : decode cX3_balance 19 = .ok (.bipush 10, 2) := by decide +kernel
theorem dX3_balance_21 : decode cX3_balance 21 = .ok (.iload_n 1, 1) := by decide +kernel
theorem dX3_balance_22 : decode cX3_balance 22 = .ok (.imul, 1) := by decide +kernel
theorem dX3_balance_23 : decode cX3_balance 23 = .ok (.iload_n 2, 1) := by decide +kernel
theorem dX3_balance_24 : decode cX3_balance 24 = .ok (.iadd, 1) := by decide +kernel
theorem dX3_balance_25 : decode cX3_balance 25 = .ok (.laload, 1) := by decide +kernel
theorem dX3_balance_26 : decode cX3_balance 26 = .ok (.l2i, 1) := by decide +kernel
theorem dX3_balance_27 : decode cX3_balance 27 = .ok (.ireturn, 1) := by decide +kernel
set_option maxRecDepth 20000 in
theorem ggX3_profit_X3_isYear : GoodIn wsX3_profit wsX3_isYear := goodIn_r _ [6, 7, 8, 9, 10, 5, 11, 12, 13, 14, 63, 64, 65, 66, 67, 68, 69, 70, 71, 72, 73, 74, 75, 76, 77, 78, 79, 80, 81] (by decide +kernel) (by decide +kernel)
set_option maxRecDepth 20000 in
theorem gX3_profit_X3_isYear : GoodIn wsX3_profit (wsV RX3 131 RX3 yX3_isYear wsX3_isYear) := goodIn_app (goodIn_of _ (by decide +kernel)) ggX3_profit_X3_isYear
set_option maxRecDepth 20000 in
theorem ggX3_profit_X3_lay : GoodIn wsX3_profit wsX3_lay := goodIn_r _ [18, 7, 19, 20, 21, 22, 23, 24, 25, 26, 1, 27, 28, 29, 30, 31, 5, 32, 33, 34, 35, 36, 37, 38, 39, 40, 41, 42, 43, 44, 45, 46, 47, 48, 49, 50, 51, 52, 53, 54, 55, 56, 57, 58, 59, 60, 61, 62, 63, 64, 65, 66, 67, 68, 69, 70, 71, 72, 73, 74, 75, 76, 77, 78, 79, 80, 81] (by decide +kernel) (by decide +kernel)
set_option maxRecDepth 20000 in
theorem gX3_profit_X3_lay : GoodIn wsX3_profit (wsV RX3 118 RX3 yX3_lay wsX3_lay) := goodIn_app (goodIn_of _ (by decide +kernel)) ggX3_profit_X3_lay
theorem dX3_profit_0 : decode cX3_profit 0 = .ok (.aload_n 0, 1) := by decide +kernel
theorem dX3_profit_1 : decode cX3_profit 1 = .ok (.iload_n 1, 1) := by decide +kernel
theorem dX3_profit_2 : decode cX3_profit 2 = .ok (.iload_n 2, 1) := by decide +kernel
theorem dX3_profit_3 : decode cX3_profit 3 = .ok (.invokevirtual 131, 3) := by decide +kernel
theorem dX3_profit_6 : decode cX3_profit 6 = .ok (.ifCond .ne 5, 3) := by decide +kernel
theorem dX3_profit_9 : decode cX3_profit 9 = .ok (.iconst 0, 1) := by decide +kernel
theorem dX3_profit_10 : decode cX3_profit 10 = .ok (.ireturn, 1) := by decide +kernel
theorem dX3_profit_11 : decode cX3_profit 11 = .ok (.aload_n 0, 1) := by decide +kernel
theorem dX3_profit_12 : decode cX3_profit 12 = .ok (.invokevirtual 118, 3) := by decide +kernel
theorem dX3_profit_15 : decode cX3_profit 15 = .ok (.aload_n 0, 1) := by decide +kernel
theorem dX3_profit_16 : decode cX3_profit 16 = .ok (.getfield 50, 3) := by decide +kernel
theorem dX3_profit_19 : decode cX3_profit 19 = .ok (.bipush 10, 2) := by decide +kernel
theorem dX3_profit_21 : decode cX3_profit 21 = .ok (.iload_n 1, 1) := by decide +kernel
theorem dX3_profit_22 : decode cX3_profit 22 = .ok (.imul, 1) := by decide +kernel
theorem dX3_profit_23 : decode cX3_profit 23 = .ok (.iload_n 2, 1) := by decide +kernel
theorem dX3_profit_24 : decode cX3_profit 24 = .ok (.iadd, 1) := by decide +kernel
theorem dX3_profit_25 : decode cX3_profit 25 = .ok (.laload, 1) := by decide +kernel
theorem dX3_profit_26 : decode cX3_profit 26 = .ok (.l2i, 1) := by decide +kernel
theorem dX3_profit_27 : decode cX3_profit 27 = .ok (.ireturn, 1) := by decide +kernel
set_option maxRecDepth 20000 in
theorem ggX3_pool_X3_isPicture : GoodIn wsX3_pool wsX3_isPicture := goodIn_r _ [6, 7, 8, 5, 9] (by decide +kernel) (by decide +kernel)
set_option maxRecDepth 20000 in
theorem gX3_pool_X3_isPicture : GoodIn wsX3_pool (va_wsS RX3 64 yX3_isPicture wsX3_isPicture) := goodIn_app (goodIn_of _ (by decide +kernel)) ggX3_pool_X3_isPicture
set_option maxRecDepth 20000 in
theorem ggX3_pool_X3_fails : GoodIn wsX3_pool wsX3_fails := goodIn_r _ [13, 1, 67, 68, 69, 70, 71, 72, 73, 74, 75, 76, 77, 78, 79, 80, 81, 82, 83, 84, 85] (by decide +kernel) (by decide +kernel)
set_option maxRecDepth 20000 in
theorem gX3_pool_X3_fails : GoodIn wsX3_pool (wsV RX3 68 RX3 yX3_fails wsX3_fails) := goodIn_app (goodIn_of _ (by decide +kernel)) ggX3_pool_X3_fails
set_option maxRecDepth 20000 in
theorem ggX3_pool_X3_lay : GoodIn wsX3_pool wsX3_lay := goodIn_r _ [17, 18, 19, 20, 21, 22, 2, 23, 24, 25, 26, 27, 28, 29, 30, 31, 5, 32, 33, 34, 35, 36, 37, 38, 39, 40, 41, 42, 43, 44, 45, 46, 47, 48, 49, 50, 51, 52, 53, 54, 55, 56, 57, 58, 59, 60, 61, 62, 67, 68, 69, 70, 71, 72, 73, 74, 75, 76, 77, 78, 79, 80, 81, 82, 83, 84, 85] (by decide +kernel) (by decide +kernel)
set_option maxRecDepth 20000 in
theorem gX3_pool_X3_lay : GoodIn wsX3_pool (wsV RX3 118 RX3 yX3_lay wsX3_lay) := goodIn_app (goodIn_of _ (by decide +kernel)) ggX3_pool_X3_lay
set_option maxRecDepth 20000 in
theorem ggX3_pool_X3_deferred : GoodIn wsX3_pool wsX3_deferred := goodIn_r _ [66, 26, 18, 23, 24, 33, 67, 68, 69, 70, 71, 72, 73, 74, 75, 76, 77, 78, 79, 80, 81, 82, 83, 84, 85] (by decide +kernel) (by decide +kernel)
set_option maxRecDepth 20000 in
theorem gX3_pool_X3_deferred : GoodIn wsX3_pool (wsV RX3 121 RX3 yX3_deferred wsX3_deferred) := goodIn_app (goodIn_of _ (by decide +kernel)) ggX3_pool_X3_deferred
theorem dX3_pool_0 : decode cX3_pool 0 = .ok (.aload_n 0, 1) := by decide +kernel
theorem dX3_pool_1 : decode cX3_pool 1 = .ok (.iconst 0, 1) := by decide +kernel
theorem dX3_pool_2 : decode cX3_pool 2 = .ok (.putfield 56, 3) := by decide +kernel
theorem dX3_pool_5 : decode cX3_pool 5 = .ok (.iload_n 1, 1) := by decide +kernel
theorem dX3_pool_6 : decode cX3_pool 6 = .ok (.invokestatic 64, 3) := by decide +kernel
theorem dX3_pool_9 : decode cX3_pool 9 = .ok (.ifCond .ne 9, 3) := by decide +kernel
theorem dX3_pool_12 : decode cX3_pool 12 = .ok (.aload_n 0, 1) := by decide +kernel
theorem dX3_pool_13 : decode cX3_pool 13 = .ok (.iconst 1, 1) := by decide +kernel
theorem dX3_pool_14 : decode cX3_pool 14 = .ok (.invokevirtual 68, 3) := by decide +kernel
theorem dX3_pool_17 : decode cX3_pool 17 = .ok (.ireturn, 1) := by decide +kernel
theorem dX3_pool_18 : decode cX3_pool 18 = .ok (.aload_n 0, 1) := by decide +kernel
theorem dX3_pool_19 : decode cX3_pool 19 = .ok (.invokevirtual 118, 3) := by decide +kernel
theorem dX3_pool_22 : decode cX3_pool 22 = .ok (.aload_n 0, 1) := by decide +kernel
theorem dX3_pool_23 : decode cX3_pool 23 = .ok (.iload_n 1, 1) := by decide +kernel
theorem dX3_pool_24 : decode cX3_pool 24 = .ok (.aload_n 0, 1) := by decide +kernel
theorem dX3_pool_25 : decode cX3_pool 25 = .ok (.getfield 81, 3) := by decide +kernel
theorem dX3_pool_28 : decode cX3_pool 28 = .ok (.invokevirtual 121, 3) := by decide +kernel
theorem dX3_pool_31 : decode cX3_pool 31 = .ok (.l2i, 1) := by decide +kernel
theorem dX3_pool_32 : decode cX3_pool 32 = .ok (.ireturn, 1) := by decide +kernel
theorem dX3_sharers_0 : decode cX3_sharers 0 = .ok (.aload_n 0, 1) := by decide +kernel
theorem dX3_sharers_1 : decode cX3_sharers 1 = .ok (.iconst 0, 1) := by decide +kernel
theorem dX3_sharers_2 : decode cX3_sharers 2 = .ok (.putfield 56, 3) := by decide +kernel
theorem dX3_sharers_5 : decode cX3_sharers 5 = .ok (.aload_n 0, 1) := by decide +kernel
theorem dX3_sharers_6 : decode cX3_sharers 6 = .ok (.getfield 81, 3) := by decide +kernel
theorem dX3_sharers_9 : decode cX3_sharers 9 = .ok (.ireturn, 1) := by decide +kernel
set_option maxRecDepth 20000 in
theorem ggX3_sum_X3_isSharer : GoodIn wsX3_sum wsX3_isSharer := goodIn_r _ [5, 6, 7, 8, 9, 4, 10, 68, 69, 70, 71, 72, 73, 74, 75, 76, 77, 78, 79, 80, 81, 82, 83, 84, 85, 86] (by decide +kernel) (by decide +kernel)
set_option maxRecDepth 20000 in
theorem gX3_sum_X3_isSharer : GoodIn wsX3_sum (wsV RX3 124 RX3 yX3_isSharer wsX3_isSharer) := goodIn_app (goodIn_of _ (by decide +kernel)) ggX3_sum_X3_isSharer
set_option maxRecDepth 20000 in
theorem ggX3_sum_X3_sumOf : GoodIn wsX3_sum wsX3_sumOf := goodIn_r _ [14, 15, 16, 17, 6, 18, 19, 20, 21, 4, 22, 23, 24, 25, 26, 27, 28, 29, 30, 31, 32, 33, 34, 35, 36, 37, 38, 39, 40, 41, 42, 43, 44, 45, 46, 47, 48, 49, 50, 51, 52, 53, 54, 55, 56, 57, 58, 59, 60, 61, 62, 63, 64, 65, 66, 67, 68, 69, 70, 71, 72, 73, 74, 75, 76, 77, 78, 79, 80, 81, 82, 83, 84, 85, 86] (by decide +kernel) (by decide +kernel)
set_option maxRecDepth 20000 in
theorem gX3_sum_X3_sumOf : GoodIn wsX3_sum (wsV RX3 127 RX3 yX3_sumOf wsX3_sumOf) := goodIn_app (goodIn_of _ (by decide +kernel)) ggX3_sum_X3_sumOf
theorem dX3_sum_0 : decode cX3_sum 0 = .ok (.aload_n 0, 1) := by decide +kernel
theorem dX3_sum_1 : decode cX3_sum 1 = .ok (.iload_n 1, 1) := by decide +kernel
theorem dX3_sum_2 : decode cX3_sum 2 = .ok (.invokevirtual 124, 3) := by decide +kernel
theorem dX3_sum_5 : decode cX3_sum 5 = .ok (.ifCond .eq 12, 3) := by decide +kernel
theorem dX3_sum_8 : decode cX3_sum 8 = .ok (.aload_n 0, 1) := by decide +kernel
theorem dX3_sum_9 : decode cX3_sum 9 = .ok (.iload_n 1, 1) := by decide +kernel
theorem dX3_sum_10 : decode cX3_sum 10 = .ok (.invokevirtual 127, 3) := by decide +kernel
theorem dX3_sum_13 : decode cX3_sum 13 = .ok (.l2i, 1) := by decide +kernel
theorem dX3_sum_14 : decode cX3_sum 14 = .ok (.goto 4, 3) := by decide +kernel
theorem dX3_sum_17 : decode cX3_sum 17 = .ok (.iconst 0, 1) := by decide +kernel
theorem dX3_sum_18 : decode cX3_sum 18 = .ok (.ireturn, 1) := by decide +kernel
set_option maxRecDepth 20000 in
theorem ggX3_paid_X3_isSharer : GoodIn wsX3_paid wsX3_isSharer := goodIn_r _ [6, 7, 8, 9, 10, 5, 11, 12, 13, 14, 15, 16, 17, 18, 19, 20, 21, 22, 23, 24, 25, 26, 27, 28, 29, 30] (by decide +kernel) (by decide +kernel)
set_option maxRecDepth 20000 in
theorem gX3_paid_X3_isSharer : GoodIn wsX3_paid (wsV RX3 124 RX3 yX3_isSharer wsX3_isSharer) := goodIn_app (goodIn_of _ (by decide +kernel)) ggX3_paid_X3_isSharer
theorem dX3_paid_0 : decode cX3_paid 0 = .ok (.aload_n 0, 1) := by decide +kernel
theorem dX3_paid_1 : decode cX3_paid 1 = .ok (.iload_n 1, 1) := by decide +kernel
theorem dX3_paid_2 : decode cX3_paid 2 = .ok (.invokevirtual 124, 3) := by decide +kernel
theorem dX3_paid_5 : decode cX3_paid 5 = .ok (.ifCond .eq 12, 3) := by decide +kernel
theorem dX3_paid_8 : decode cX3_paid 8 = .ok (.aload_n 0, 1) := by decide +kernel
theorem dX3_paid_9 : decode cX3_paid 9 = .ok (.getfield 43, 3) := by decide +kernel
theorem dX3_paid_12 : decode cX3_paid 12 = .ok (.iload_n 1, 1) := by decide +kernel
theorem dX3_paid_13 : decode cX3_paid 13 = .ok (.iaload, 1) := by decide +kernel
theorem dX3_paid_14 : decode cX3_paid 14 = .ok (.goto 4, 3) := by decide +kernel
theorem dX3_paid_17 : decode cX3_paid 17 = .ok (.iconst 0, 1) := by decide +kernel
theorem dX3_paid_18 : decode cX3_paid 18 = .ok (.ireturn, 1) := by decide +kernel
set_option maxRecDepth 20000 in
theorem ggX3_owed_X3_isSharer : GoodIn wsX3_owed wsX3_isSharer := goodIn_r _ [6, 7, 8, 9, 10, 5, 11, 69, 70, 71, 72, 73, 74, 75, 76, 77, 78, 79, 80, 81, 82, 83, 84, 85, 86, 87] (by decide +kernel) (by decide +kernel)
set_option maxRecDepth 20000 in
theorem gX3_owed_X3_isSharer : GoodIn wsX3_owed (wsV RX3 124 RX3 yX3_isSharer wsX3_isSharer) := goodIn_app (goodIn_of _ (by decide +kernel)) ggX3_owed_X3_isSharer
set_option maxRecDepth 20000 in
theorem ggX3_owed_X3_sumOf : GoodIn wsX3_owed wsX3_sumOf := goodIn_r _ [15, 16, 17, 18, 7, 19, 20, 21, 22, 5, 23, 24, 25, 26, 27, 28, 29, 30, 31, 32, 33, 34, 35, 36, 37, 38, 39, 40, 41, 42, 43, 44, 45, 46, 47, 48, 49, 50, 51, 52, 53, 54, 55, 56, 57, 58, 59, 60, 61, 62, 63, 64, 65, 66, 67, 68, 69, 70, 71, 72, 73, 74, 75, 76, 77, 78, 79, 80, 81, 82, 83, 84, 85, 86, 87] (by decide +kernel) (by decide +kernel)
set_option maxRecDepth 20000 in
theorem gX3_owed_X3_sumOf : GoodIn wsX3_owed (wsV RX3 127 RX3 yX3_sumOf wsX3_sumOf) := goodIn_app (goodIn_of _ (by decide +kernel)) ggX3_owed_X3_sumOf
theorem dX3_owed_0 : decode cX3_owed 0 = .ok (.aload_n 0, 1) := by decide +kernel
theorem dX3_owed_1 : decode cX3_owed 1 = .ok (.iload_n 1, 1) := by decide +kernel
theorem dX3_owed_2 : decode cX3_owed 2 = .ok (.invokevirtual 124, 3) := by decide +kernel
theorem dX3_owed_5 : decode cX3_owed 5 = .ok (.ifCond .eq 19, 3) := by decide +kernel
theorem dX3_owed_8 : decode cX3_owed 8 = .ok (.aload_n 0, 1) := by decide +kernel
theorem dX3_owed_9 : decode cX3_owed 9 = .ok (.iload_n 1, 1) := by decide +kernel
theorem dX3_owed_10 : decode cX3_owed 10 = .ok (.invokevirtual 127, 3) := by decide +kernel
theorem dX3_owed_13 : decode cX3_owed 13 = .ok (.l2i, 1) := by decide +kernel
theorem dX3_owed_14 : decode cX3_owed 14 = .ok (.aload_n 0, 1) := by decide +kernel
theorem dX3_owed_15 : decode cX3_owed 15 = .ok (.getfield 43, 3) := by decide +kernel
theorem dX3_owed_18 : decode cX3_owed 18 = .ok (.iload_n 1, 1) := by decide +kernel
theorem dX3_owed_19 : decode cX3_owed 19 = .ok (.iaload, 1) := by decide +kernel
theorem dX3_owed_20 : decode cX3_owed 20 = .ok (.isub, 1) := by decide +kernel
theorem dX3_owed_21 : decode cX3_owed 21 = .ok (.goto 4, 3) := by decide +kernel
theorem dX3_owed_24 : decode cX3_owed 24 = .ok (.iconst 0, 1) := by decide +kernel
theorem dX3_owed_25 : decode cX3_owed 25 = .ok (.ireturn, 1) := by decide +kernel
theorem dJ9_max_7cf53_0 : decode cJ9_max_7cf53 0 = .ok (.iload_n 0, 1) := by decide +kernel
theorem dJ9_max_7cf53_1 : decode cJ9_max_7cf53 1 = .ok (.iload_n 1, 1) := by decide +kernel
theorem dJ9_max_7cf53_2 : decode cJ9_max_7cf53 2 = .ok (.if_icmp .lt 7, 3) := by decide +kernel
theorem dJ9_max_7cf53_5 : decode cJ9_max_7cf53 5 = .ok (.iload_n 0, 1) := by decide +kernel
theorem dJ9_max_7cf53_6 : decode cJ9_max_7cf53 6 = .ok (.goto 4, 3) := by decide +kernel
theorem dJ9_max_7cf53_9 : decode cJ9_max_7cf53 9 = .ok (.iload_n 1, 1) := by decide +kernel
theorem dJ9_max_7cf53_10 : decode cJ9_max_7cf53 10 = .ok (.ireturn, 1) := by decide +kernel
theorem dJ9_min_7cf53_0 : decode cJ9_min_7cf53 0 = .ok (.iload_n 0, 1) := by decide +kernel
theorem dJ9_min_7cf53_1 : decode cJ9_min_7cf53 1 = .ok (.iload_n 1, 1) := by decide +kernel
theorem dJ9_min_7cf53_2 : decode cJ9_min_7cf53 2 = .ok (.if_icmp .gt 7, 3) := by decide +kernel
theorem dJ9_min_7cf53_5 : decode cJ9_min_7cf53 5 = .ok (.iload_n 0, 1) := by decide +kernel
theorem dJ9_min_7cf53_6 : decode cJ9_min_7cf53 6 = .ok (.goto 4, 3) := by decide +kernel
theorem dJ9_min_7cf53_9 : decode cJ9_min_7cf53 9 = .ok (.iload_n 1, 1) := by decide +kernel
theorem dJ9_min_7cf53_10 : decode cJ9_min_7cf53 10 = .ok (.ireturn, 1) := by decide +kernel
theorem dJ9_min_f86c9_0 : decode cJ9_min_f86c9 0 = .ok (.lload_n 0, 1) := by decide +kernel
theorem dJ9_min_f86c9_1 : decode cJ9_min_f86c9 1 = .ok (.lload_n 2, 1) := by decide +kernel
theorem dJ9_min_f86c9_2 : decode cJ9_min_f86c9 2 = .ok (.lcmp, 1) := by decide +kernel
theorem dJ9_min_f86c9_3 : decode cJ9_min_f86c9 3 = .ok (.ifCond .gt 7, 3) := by decide +kernel
theorem dJ9_min_f86c9_6 : decode cJ9_min_f86c9 6 = .ok (.lload_n 0, 1) := by decide +kernel
theorem dJ9_min_f86c9_7 : decode cJ9_min_f86c9 7 = .ok (.goto 4, 3) := by decide +kernel
theorem dJ9_min_f86c9_10 : decode cJ9_min_f86c9 10 = .ok (.lload_n 2, 1) := by decide +kernel
theorem dJ9_min_f86c9_11 : decode cJ9_min_f86c9 11 = .ok (.lreturn, 1) := by decide +kernel
theorem dJxa1e45_init_da8c8_0 : decode cJxa1e45_init_da8c8 0 = .ok (.aload_n 0, 1) := by decide +kernel
theorem dJxa1e45_init_da8c8_1 : decode cJxa1e45_init_da8c8 1 = .ok (.invokespecial 1, 3) := by decide +kernel
theorem dJxa1e45_init_da8c8_4 : decode cJxa1e45_init_da8c8 4 = .ok (.return_, 1) := by decide +kernel
set_option maxRecDepth 20000 in
theorem ggJxc12de_init_da8c8_Jxa1e45_init_da8c8 : GoodIn wsJxc12de_init_da8c8 wsJxa1e45_init_da8c8 := goodIn_r _ [5, 6, 7, 8] (by decide +kernel) (by decide +kernel)
set_option maxRecDepth 20000 in
theorem gJxc12de_init_da8c8_Jxa1e45_init_da8c8 : GoodIn wsJxc12de_init_da8c8 (wsJxa1e45_init_da8c8) := ggJxc12de_init_da8c8_Jxa1e45_init_da8c8
theorem dJxc12de_init_da8c8_0 : decode cJxc12de_init_da8c8 0 = .ok (.aload_n 0, 1) := by decide +kernel
theorem dJxc12de_init_da8c8_1 : decode cJxc12de_init_da8c8 1 = .ok (.invokespecial 1, 3) := by decide +kernel
theorem dJxc12de_init_da8c8_4 : decode cJxc12de_init_da8c8 4 = .ok (.aload_n 0, 1) := by decide +kernel
theorem dJxc12de_init_da8c8_5 : decode cJxc12de_init_da8c8 5 = .ok (.iconst 0, 1) := by decide +kernel
theorem dJxc12de_init_da8c8_6 : decode cJxc12de_init_da8c8 6 = .ok (.putfield 7, 3) := by decide +kernel
theorem dJxc12de_init_da8c8_9 : decode cJxc12de_init_da8c8 9 = .ok (.return_, 1) := by decide +kernel
set_option maxRecDepth 20000 in
theorem ggJx4a65c_init_da8c8_Jxc12de_init_da8c8 : GoodIn wsJx4a65c_init_da8c8 wsJxc12de_init_da8c8 := goodIn_r _ [6, 7, 8, 9, 10, 11, 12, 13, 14, 15, 16, 17] (by decide +kernel) (by decide +kernel)
set_option maxRecDepth 20000 in
theorem gJx4a65c_init_da8c8_Jxc12de_init_da8c8 : GoodIn wsJx4a65c_init_da8c8 (wsJxc12de_init_da8c8) := ggJx4a65c_init_da8c8_Jxc12de_init_da8c8
theorem dJx4a65c_init_da8c8_0 : decode cJx4a65c_init_da8c8 0 = .ok (.aload_n 0, 1) := by decide +kernel
theorem dJx4a65c_init_da8c8_1 : decode cJx4a65c_init_da8c8 1 = .ok (.invokespecial 1, 3) := by decide +kernel
theorem dJx4a65c_init_da8c8_4 : decode cJx4a65c_init_da8c8 4 = .ok (.aload_n 0, 1) := by decide +kernel
theorem dJx4a65c_init_da8c8_5 : decode cJx4a65c_init_da8c8 5 = .ok (.getstatic 39, 3) := by decide +kernel
theorem dJx4a65c_init_da8c8_8 : decode cJx4a65c_init_da8c8 8 = .ok (.putfield 9, 3) := by decide +kernel
theorem dJx4a65c_init_da8c8_11 : decode cJx4a65c_init_da8c8 11 = .ok (.return_, 1) := by decide +kernel
set_option maxRecDepth 20000 in
theorem ggJx4a65c_grow_92f84_J8_newLength_cabcc : GoodIn wsJx4a65c_grow_92f84 wsJ8_newLength_cabcc := goodIn_r _ [11, 12, 4, 5, 6, 13, 14, 15, 10, 16] (by decide +kernel) (by decide +kernel)
set_option maxRecDepth 20000 in
theorem gJx4a65c_grow_92f84_J8_newLength_cabcc : GoodIn wsJx4a65c_grow_92f84 (va_wsS RJx4a65c 73 yJ8_newLength_cabcc wsJ8_newLength_cabcc) := goodIn_app (goodIn_of _ (by decide +kernel)) ggJx4a65c_grow_92f84_J8_newLength_cabcc
set_option maxRecDepth 20000 in
theorem ggJx4a65c_grow_92f84_J7_copyOf_1904c : GoodIn wsJx4a65c_grow_92f84 wsJ7_copyOf_1904c := goodIn_r _ [20, 21, 22, 23, 24, 25, 26, 19, 27, 28, 29, 30, 31, 5, 32, 33, 34, 35, 36] (by decide +kernel) (by decide +kernel)
set_option maxRecDepth 20000 in
theorem gJx4a65c_grow_92f84_J7_copyOf_1904c : GoodIn wsJx4a65c_grow_92f84 (va_wsS RJx4a65c 66 yJ7_copyOf_1904c wsJ7_copyOf_1904c) := goodIn_app (goodIn_of _ (by decide +kernel)) ggJx4a65c_grow_92f84_J7_copyOf_1904c
theorem dJx4a65c_grow_92f84_0 : decode cJx4a65c_grow_92f84 0 = .ok (.aload_n 0, 1) := by decide +kernel
theorem dJx4a65c_grow_92f84_1 : decode cJx4a65c_grow_92f84 1 = .ok (.getfield 9, 3) := by decide +kernel
theorem dJx4a65c_grow_92f84_4 : decode cJx4a65c_grow_92f84 4 = .ok (.arraylength, 1) := by decide +kernel
theorem dJx4a65c_grow_92f84_5 : decode cJx4a65c_grow_92f84 5 = .ok (.istore_n 2, 1) := by decide +kernel
theorem dJx4a65c_grow_92f84_6 : decode cJx4a65c_grow_92f84 6 = .ok (.iload_n 2, 1) := by decide +kernel
theorem dJx4a65c_grow_92f84_7 : decode cJx4a65c_grow_92f84 7 = .ok (.ifCond .gt 13, 3) := by decide +kernel
theorem dJx4a65c_grow_92f84_10 : decode cJx4a65c_grow_92f84 10 = .ok (.aload_n 0, 1) := by decide +kernel
theorem dJx4a65c_grow_92f84_11 : decode cJx4a65c_grow_92f84 11 = .ok (.getfield 9, 3) := by decide +kernel
theorem dJx4a65c_grow_92f84_14 : decode cJx4a65c_grow_92f84 14 = .ok (.getstatic 39, 3) := by decide +kernel
theorem dJx4a65c_grow_92f84_17 : decode cJx4a65c_grow_92f84 17 = .ok (.if_acmp .eq 28, 3) := by decide +kernel
theorem dJx4a65c_grow_92f84_20 : decode cJx4a65c_grow_92f84 20 = .ok (.iload_n 2, 1) := by decide +kernel
theorem dJx4a65c_grow_92f84_21 : decode cJx4a65c_grow_92f84 21 = .ok (.iload_n 1, 1) := by decide +kernel
theorem dJx4a65c_grow_92f84_22 : decode cJx4a65c_grow_92f84 22 = .ok (.iload_n 2, 1) := by decide +kernel
theorem dJx4a65c_grow_92f84_23 : decode cJx4a65c_grow_92f84 23 = .ok (.isub, 1) := by decide +kernel
theorem dJx4a65c_grow_92f84_24 : decode cJx4a65c_grow_92f84 24 = .ok (.iload_n 2, 1) := by decide +kernel
theorem dJx4a65c_grow_92f84_25 : decode cJx4a65c_grow_92f84 25 = .ok (.iconst 1, 1) := by decide +kernel
theorem dJx4a65c_grow_92f84_26 : decode cJx4a65c_grow_92f84 26 = .ok (.ishr, 1) := by decide +kernel
theorem dJx4a65c_grow_92f84_27 : decode cJx4a65c_grow_92f84 27 = .ok (.invokestatic 73, 3) := by decide +kernel
theorem dJx4a65c_grow_92f84_30 : decode cJx4a65c_grow_92f84 30 = .ok (.istore_n 3, 1) := by decide +kernel
theorem dJx4a65c_grow_92f84_31 : decode cJx4a65c_grow_92f84 31 = .ok (.aload_n 0, 1) := by decide +kernel
theorem dJx4a65c_grow_92f84_32 : decode cJx4a65c_grow_92f84 32 = .ok (.aload_n 0, 1) := by decide +kernel
theorem dJx4a65c_grow_92f84_33 : decode cJx4a65c_grow_92f84 33 = .ok (.getfield 9, 3) := by decide +kernel
theorem dJx4a65c_grow_92f84_36 : decode cJx4a65c_grow_92f84 36 = .ok (.iload_n 3, 1) := by decide +kernel
theorem dJx4a65c_grow_92f84_37 : decode cJx4a65c_grow_92f84 37 = .ok (.invokestatic 66, 3) := by decide +kernel
theorem dJx4a65c_grow_92f84_40 : decode cJx4a65c_grow_92f84 40 = .ok (.dup_x1, 1) := by decide +kernel
theorem dJx4a65c_grow_92f84_41 : decode cJx4a65c_grow_92f84 41 = .ok (.putfield 9, 3) := by decide +kernel
theorem dJx4a65c_grow_92f84_44 : decode cJx4a65c_grow_92f84 44 = .ok (.areturn, 1) := by decide +kernel
theorem dJx4a65c_grow_92f84_45 : decode cJx4a65c_grow_92f84 45 = .ok (.aload_n 0, 1) := by decide +kernel
theorem dJx4a65c_grow_92f84_46 : decode cJx4a65c_grow_92f84 46 = .ok (.bipush 10, 2) := by decide +kernel
theorem dJx4a65c_grow_92f84_48 : decode cJx4a65c_grow_92f84 48 = .ok (.iload_n 1, 1) := by decide +kernel
theorem dJx4a65c_grow_92f84_49 : decode cJx4a65c_grow_92f84 49 = .ok (.invokestatic 79, 3) := by decide +kernel
theorem dJx4a65c_grow_92f84_52 : decode cJx4a65c_grow_92f84 52 = .ok (.anewarray 7, 3) := by decide +kernel
theorem dJx4a65c_grow_92f84_55 : decode cJx4a65c_grow_92f84 55 = .ok (.dup_x1, 1) := by decide +kernel
theorem dJx4a65c_grow_92f84_56 : decode cJx4a65c_grow_92f84 56 = .ok (.putfield 9, 3) := by decide +kernel
theorem dJx4a65c_grow_92f84_59 : decode cJx4a65c_grow_92f84 59 = .ok (.areturn, 1) := by decide +kernel
set_option maxRecDepth 20000 in
theorem ggJx4a65c_grow_d5877_Jx4a65c_grow_92f84 : GoodIn wsJx4a65c_grow_d5877 wsJx4a65c_grow_92f84 := goodIn_r _ [6, 7, 8, 9, 10, 11, 12, 13, 14, 15, 16, 17, 18, 19, 20, 21, 22, 23, 24, 25, 26, 27, 28, 29, 30, 31, 32, 33, 34, 35, 36, 37, 38, 39, 40, 41, 42, 43, 44, 45] (by decide +kernel) (by decide +kernel)
set_option maxRecDepth 20000 in
theorem gJx4a65c_grow_d5877_Jx4a65c_grow_92f84 : GoodIn wsJx4a65c_grow_d5877 (wsV RJx4a65c 69 RJx4a65c yJx4a65c_grow_92f84 wsJx4a65c_grow_92f84) := goodIn_app (goodIn_of _ (by decide +kernel)) ggJx4a65c_grow_d5877_Jx4a65c_grow_92f84
theorem dJx4a65c_grow_d5877_0 : decode cJx4a65c_grow_d5877 0 = .ok (.aload_n 0, 1) := by decide +kernel
theorem dJx4a65c_grow_d5877_1 : decode cJx4a65c_grow_d5877 1 = .ok (.aload_n 0, 1) := by decide +kernel
theorem dJx4a65c_grow_d5877_2 : decode cJx4a65c_grow_d5877 2 = .ok (.getfield 48, 3) := by decide +kernel
theorem dJx4a65c_grow_d5877_5 : decode cJx4a65c_grow_d5877 5 = .ok (.iconst 1, 1) := by decide +kernel
theorem dJx4a65c_grow_d5877_6 : decode cJx4a65c_grow_d5877 6 = .ok (.iadd, 1) := by decide +kernel
theorem dJx4a65c_grow_d5877_7 : decode cJx4a65c_grow_d5877 7 = .ok (.invokevirtual 69, 3) := by decide +kernel
theorem dJx4a65c_grow_d5877_10 : decode cJx4a65c_grow_d5877 10 = .ok (.areturn, 1) := by decide +kernel
theorem dJx4a65c_size_8abf5_0 : decode cJx4a65c_size_8abf5 0 = .ok (.aload_n 0, 1) := by decide +kernel
theorem dJx4a65c_size_8abf5_1 : decode cJx4a65c_size_8abf5 1 = .ok (.getfield 48, 3) := by decide +kernel
theorem dJx4a65c_size_8abf5_4 : decode cJx4a65c_size_8abf5 4 = .ok (.ireturn, 1) := by decide +kernel
theorem dJx4a65c_elementData_915e3_0 : decode cJx4a65c_elementData_915e3 0 = .ok (.aload_n 0, 1) := by decide +kernel
theorem dJx4a65c_elementData_915e3_1 : decode cJx4a65c_elementData_915e3 1 = .ok (.getfield 9, 3) := by decide +kernel
theorem dJx4a65c_elementData_915e3_4 : decode cJx4a65c_elementData_915e3 4 = .ok (.iload_n 1, 1) := by decide +kernel
theorem dJx4a65c_elementData_915e3_5 : decode cJx4a65c_elementData_915e3 5 = .ok (.aaload, 1) := by decide +kernel
theorem dJx4a65c_elementData_915e3_6 : decode cJx4a65c_elementData_915e3 6 = .ok (.areturn, 1) := by decide +kernel
set_option maxRecDepth 20000 in
theorem ggJx4a65c_get_915e3_J15_checkIndex_7cf53 : GoodIn wsJx4a65c_get_915e3 wsJ15_checkIndex_7cf53 := goodIn_r _ [5, 6, 7, 8, 9] (by decide +kernel) (by decide +kernel)
set_option maxRecDepth 20000 in
theorem gJx4a65c_get_915e3_J15_checkIndex_7cf53 : GoodIn wsJx4a65c_get_915e3 (va_wsS RJx4a65c 118 yJ15_checkIndex_7cf53 wsJ15_checkIndex_7cf53) := goodIn_app (goodIn_of _ (by decide +kernel)) ggJx4a65c_get_915e3_J15_checkIndex_7cf53
set_option maxRecDepth 20000 in
theorem ggJx4a65c_get_915e3_Jx4a65c_elementData_915e3 : GoodIn wsJx4a65c_get_915e3 wsJx4a65c_elementData_915e3 := goodIn_r _ [14, 15, 16, 17, 18] (by decide +kernel) (by decide +kernel)
set_option maxRecDepth 20000 in
theorem gJx4a65c_get_915e3_Jx4a65c_elementData_915e3 : GoodIn wsJx4a65c_get_915e3 (wsV RJx4a65c 123 RJx4a65c yJx4a65c_elementData_915e3 wsJx4a65c_elementData_915e3) := goodIn_app (goodIn_of _ (by decide +kernel)) ggJx4a65c_get_915e3_Jx4a65c_elementData_915e3
theorem dJx4a65c_get_915e3_0 : decode cJx4a65c_get_915e3 0 = .ok (.iload_n 1, 1) := by decide +kernel
theorem dJx4a65c_get_915e3_1 : decode cJx4a65c_get_915e3 1 = .ok (.aload_n 0, 1) := by decide +kernel
theorem dJx4a65c_get_915e3_2 : decode cJx4a65c_get_915e3 2 = .ok (.getfield 48, 3) := by decide +kernel
theorem dJx4a65c_get_915e3_5 : decode cJx4a65c_get_915e3 5 = .ok (.invokestatic 118, 3) := by decide +kernel
theorem dJx4a65c_get_915e3_8 : decode cJx4a65c_get_915e3 8 = .ok (.pop, 1) := by decide +kernel
theorem dJx4a65c_get_915e3_9 : decode cJx4a65c_get_915e3 9 = .ok (.aload_n 0, 1) := by decide +kernel
theorem dJx4a65c_get_915e3_10 : decode cJx4a65c_get_915e3 10 = .ok (.iload_n 1, 1) := by decide +kernel
theorem dJx4a65c_get_915e3_11 : decode cJx4a65c_get_915e3 11 = .ok (.invokevirtual 123, 3) := by decide +kernel
theorem dJx4a65c_get_915e3_14 : decode cJx4a65c_get_915e3 14 = .ok (.areturn, 1) := by decide +kernel
set_option maxRecDepth 20000 in
theorem ggJx4a65c_add_72be8_Jx4a65c_grow_d5877 : GoodIn wsJx4a65c_add_72be8 wsJx4a65c_grow_d5877 := goodIn_r _ [6, 1, 7, 8, 9, 5, 10, 11, 12, 13, 14, 15, 16, 17, 18, 19, 20, 21, 22, 23, 24, 25, 26, 27, 28, 29, 30, 31, 32, 33, 34, 35, 36, 37, 38, 39, 40, 41, 42, 43, 44, 45, 46, 47, 48, 49] (by decide +kernel) (by decide +kernel)
set_option maxRecDepth 20000 in
theorem gJx4a65c_add_72be8_Jx4a65c_grow_d5877 : GoodIn wsJx4a65c_add_72be8 (wsV RJx4a65c 129 RJx4a65c yJx4a65c_grow_d5877 wsJx4a65c_grow_d5877) := goodIn_app (goodIn_of _ (by decide +kernel)) ggJx4a65c_add_72be8_Jx4a65c_grow_d5877
theorem dJx4a65c_add_72be8_0 : decode cJx4a65c_add_72be8 0 = .ok (.iload_n 3, 1) := by decide +kernel
theorem dJx4a65c_add_72be8_1 : decode cJx4a65c_add_72be8 1 = .ok (.aload_n 2, 1) := by decide +kernel
theorem dJx4a65c_add_72be8_2 : decode cJx4a65c_add_72be8 2 = .ok (.arraylength, 1) := by decide +kernel
theorem dJx4a65c_add_72be8_3 : decode cJx4a65c_add_72be8 3 = .ok (.if_icmp .ne 8, 3) := by decide +kernel
theorem dJx4a65c_add_72be8_6 : decode cJx4a65c_add_72be8 6 = .ok (.aload_n 0, 1) := by decide +kernel
theorem dJx4a65c_add_72be8_7 : decode cJx4a65c_add_72be8 7 = .ok (.invokevirtual 129, 3) := by decide +kernel
theorem dJx4a65c_add_72be8_10 : decode cJx4a65c_add_72be8 10 = .ok (.astore_n 2, 1) := by decide +kernel
theorem dJx4a65c_add_72be8_11 : decode cJx4a65c_add_72be8 11 = .ok (.aload_n 2, 1) := by decide +kernel
theorem dJx4a65c_add_72be8_12 : decode cJx4a65c_add_72be8 12 = .ok (.iload_n 3, 1) := by decide +kernel
theorem dJx4a65c_add_72be8_13 : decode cJx4a65c_add_72be8 13 = .ok (.aload_n 1, 1) := by decide +kernel
theorem dJx4a65c_add_72be8_14 : decode cJx4a65c_add_72be8 14 = .ok (.aastore, 1) := by decide +kernel
theorem dJx4a65c_add_72be8_15 : decode cJx4a65c_add_72be8 15 = .ok (.aload_n 0, 1) := by decide +kernel
theorem dJx4a65c_add_72be8_16 : decode cJx4a65c_add_72be8 16 = .ok (.iload_n 3, 1) := by decide +kernel
theorem dJx4a65c_add_72be8_17 : decode cJx4a65c_add_72be8 17 = .ok (.iconst 1, 1) := by decide +kernel
theorem dJx4a65c_add_72be8_18 : decode cJx4a65c_add_72be8 18 = .ok (.iadd, 1) := by decide +kernel
theorem dJx4a65c_add_72be8_19 : decode cJx4a65c_add_72be8 19 = .ok (.putfield 48, 3) := by decide +kernel
theorem dJx4a65c_add_72be8_22 : decode cJx4a65c_add_72be8 22 = .ok (.return_, 1) := by decide +kernel
set_option maxRecDepth 20000 in
theorem ggJx4a65c_add_9ea2d_Jx4a65c_add_72be8 : GoodIn wsJx4a65c_add_9ea2d wsJx4a65c_add_72be8 := goodIn_r _ [9, 4, 10, 11, 12, 8, 13, 14, 15, 16, 17, 3, 18, 19, 20, 21, 22, 23, 24, 25, 26, 27, 28, 29, 30, 31, 32, 33, 34, 35, 36, 37, 38, 39, 40, 41, 42, 43, 44, 45, 46, 47, 48, 49, 50, 51, 52, 53, 54, 55] (by decide +kernel) (by decide +kernel)
set_option maxRecDepth 20000 in
theorem gJx4a65c_add_9ea2d_Jx4a65c_add_72be8 : GoodIn wsJx4a65c_add_9ea2d (wsV RJx4a65c 131 RJx4a65c yJx4a65c_add_72be8 wsJx4a65c_add_72be8) := goodIn_app (goodIn_of _ (by decide +kernel)) ggJx4a65c_add_9ea2d_Jx4a65c_add_72be8
theorem dJx4a65c_add_9ea2d_0 : decode cJx4a65c_add_9ea2d 0 = .ok (.aload_n 0, 1) := by decide +kernel
theorem dJx4a65c_add_9ea2d_1 : decode cJx4a65c_add_9ea2d 1 = .ok (.dup, 1) := by decide +kernel
theorem dJx4a65c_add_9ea2d_2 : decode cJx4a65c_add_9ea2d 2 = .ok (.getfield 63, 3) := by decide +kernel
theorem dJx4a65c_add_9ea2d_5 : decode cJx4a65c_add_9ea2d 5 = .ok (.iconst 1, 1) := by decide +kernel
theorem dJx4a65c_add_9ea2d_6 : decode cJx4a65c_add_9ea2d 6 = .ok (.iadd, 1) := by decide +kernel
theorem dJx4a65c_add_9ea2d_7 : decode cJx4a65c_add_9ea2d 7 = .ok (.putfield 63, 3) := by decide +kernel
theorem dJx4a65c_add_9ea2d_10 : decode cJx4a65c_add_9ea2d 10 = .ok (.aload_n 0, 1) := by decide +kernel
theorem dJx4a65c_add_9ea2d_11 : decode cJx4a65c_add_9ea2d 11 = .ok (.aload_n 1, 1) := by decide +kernel
theorem dJx4a65c_add_9ea2d_12 : decode cJx4a65c_add_9ea2d 12 = .ok (.aload_n 0, 1) := by decide +kernel
theorem dJx4a65c_add_9ea2d_13 : decode cJx4a65c_add_9ea2d 13 = .ok (.getfield 9, 3) := by decide +kernel
theorem dJx4a65c_add_9ea2d_16 : decode cJx4a65c_add_9ea2d 16 = .ok (.aload_n 0, 1) := by decide +kernel
theorem dJx4a65c_add_9ea2d_17 : decode cJx4a65c_add_9ea2d 17 = .ok (.getfield 48, 3) := by decide +kernel
theorem dJx4a65c_add_9ea2d_20 : decode cJx4a65c_add_9ea2d 20 = .ok (.invokevirtual 131, 3) := by decide +kernel
theorem dJx4a65c_add_9ea2d_23 : decode cJx4a65c_add_9ea2d 23 = .ok (.iconst 1, 1) := by decide +kernel
theorem dJx4a65c_add_9ea2d_24 : decode cJx4a65c_add_9ea2d 24 = .ok (.ireturn, 1) := by decide +kernel
set_option maxRecDepth 20000 in
theorem ggJ7_copyOf_1904c_J7_copyOf_6403c : GoodIn wsJ7_copyOf_1904c wsJ7_copyOf_6403c := goodIn_r _ [8, 9, 10, 11, 12, 13, 14, 15, 16, 17, 18] (by decide +kernel) (by decide +kernel)
set_option maxRecDepth 20000 in
theorem gJ7_copyOf_1904c_J7_copyOf_6403c : GoodIn wsJ7_copyOf_1904c (va_wsS RJ7 300 yJ7_copyOf_6403c wsJ7_copyOf_6403c) := goodIn_app (goodIn_of _ (by decide +kernel)) ggJ7_copyOf_1904c_J7_copyOf_6403c
theorem dJ7_copyOf_1904c_0 : decode cJ7_copyOf_1904c 0 = .ok (.aload_n 0, 1) := by decide +kernel
theorem dJ7_copyOf_1904c_1 : decode cJ7_copyOf_1904c 1 = .ok (.iload_n 1, 1) := by decide +kernel
theorem dJ7_copyOf_1904c_2 : decode cJ7_copyOf_1904c 2 = .ok (.aload_n 0, 1) := by decide +kernel
theorem dJ7_copyOf_1904c_3 : decode cJ7_copyOf_1904c 3 = .ok (.invokevirtual 86, 3) := by decide +kernel
theorem dJ7_copyOf_1904c_6 : decode cJ7_copyOf_1904c 6 = .ok (.invokestatic 300, 3) := by decide +kernel
theorem dJ7_copyOf_1904c_9 : decode cJ7_copyOf_1904c 9 = .ok (.areturn, 1) := by decide +kernel
theorem dJ7_copyOf_6403c_0 : decode cJ7_copyOf_6403c 0 = .ok (.aload_n 2, 1) := by decide +kernel
theorem dJ7_copyOf_6403c_1 : decode cJ7_copyOf_6403c 1 = .ok (.ldc 110, 2) := by decide +kernel
theorem dJ7_copyOf_6403c_3 : decode cJ7_copyOf_6403c 3 = .ok (.if_acmp .ne 10, 3) := by decide +kernel
theorem dJ7_copyOf_6403c_6 : decode cJ7_copyOf_6403c 6 = .ok (.iload_n 1, 1) := by decide +kernel
theorem dJ7_copyOf_6403c_7 : decode cJ7_copyOf_6403c 7 = .ok (.anewarray 2, 3) := by decide +kernel
theorem dJ7_copyOf_6403c_10 : decode cJ7_copyOf_6403c 10 = .ok (.goto 14, 3) := by decide +kernel
theorem dJ7_copyOf_6403c_13 : decode cJ7_copyOf_6403c 13 = .ok (.aload_n 2, 1) := by decide +kernel
theorem dJ7_copyOf_6403c_14 : decode cJ7_copyOf_6403c 14 = .ok (.invokevirtual 90, 3) := by decide +kernel
theorem dJ7_copyOf_6403c_17 : decode cJ7_copyOf_6403c 17 = .ok (.iload_n 1, 1) := by decide +kernel
theorem dJ7_copyOf_6403c_18 : decode cJ7_copyOf_6403c 18 = .ok (.invokestatic 95, 3) := by decide +kernel
theorem dJ7_copyOf_6403c_21 : decode cJ7_copyOf_6403c 21 = .ok (.checkcast 110, 3) := by decide +kernel
theorem dJ7_copyOf_6403c_24 : decode cJ7_copyOf_6403c 24 = .ok (.astore_n 3, 1) := by decide +kernel
theorem dJ7_copyOf_6403c_25 : decode cJ7_copyOf_6403c 25 = .ok (.aload_n 0, 1) := by decide +kernel
theorem dJ7_copyOf_6403c_26 : decode cJ7_copyOf_6403c 26 = .ok (.iconst 0, 1) := by decide +kernel
theorem dJ7_copyOf_6403c_27 : decode cJ7_copyOf_6403c 27 = .ok (.aload_n 3, 1) := by decide +kernel
theorem dJ7_copyOf_6403c_28 : decode cJ7_copyOf_6403c 28 = .ok (.iconst 0, 1) := by decide +kernel
theorem dJ7_copyOf_6403c_29 : decode cJ7_copyOf_6403c 29 = .ok (.aload_n 0, 1) := by decide +kernel
theorem dJ7_copyOf_6403c_30 : decode cJ7_copyOf_6403c 30 = .ok (.arraylength, 1) := by decide +kernel
theorem dJ7_copyOf_6403c_31 : decode cJ7_copyOf_6403c 31 = .ok (.iload_n 1, 1) := by decide +kernel
theorem dJ7_copyOf_6403c_32 : decode cJ7_copyOf_6403c 32 = .ok (.invokestatic 304, 3) := by decide +kernel
theorem dJ7_copyOf_6403c_35 : decode cJ7_copyOf_6403c 35 = .ok (.invokestatic 150, 3) := by decide +kernel
theorem dJ7_copyOf_6403c_38 : decode cJ7_copyOf_6403c 38 = .ok (.aload_n 3, 1) := by decide +kernel
theorem dJ7_copyOf_6403c_39 : decode cJ7_copyOf_6403c 39 = .ok (.areturn, 1) := by decide +kernel
set_option maxRecDepth 20000 in
theorem ggJ15_checkIndex_7cf53_J3_checkIndex_8e157 : GoodIn wsJ15_checkIndex_7cf53 wsJ3_checkIndex_8e157 := goodIn_r _ [4] (by decide +kernel) (by decide +kernel)
set_option maxRecDepth 20000 in
theorem gJ15_checkIndex_7cf53_J3_checkIndex_8e157 : GoodIn wsJ15_checkIndex_7cf53 (va_wsS RJ15 105 yJ3_checkIndex_8e157 wsJ3_checkIndex_8e157) := goodIn_app (goodIn_of _ (by decide +kernel)) ggJ15_checkIndex_7cf53_J3_checkIndex_8e157
theorem dJ15_checkIndex_7cf53_0 : decode cJ15_checkIndex_7cf53 0 = .ok (.iload_n 0, 1) := by decide +kernel
theorem dJ15_checkIndex_7cf53_1 : decode cJ15_checkIndex_7cf53 1 = .ok (.iload_n 1, 1) := by decide +kernel
theorem dJ15_checkIndex_7cf53_2 : decode cJ15_checkIndex_7cf53 2 = .ok (.aconst_null, 1) := by decide +kernel
theorem dJ15_checkIndex_7cf53_3 : decode cJ15_checkIndex_7cf53 3 = .ok (.invokestatic 105, 3) := by decide +kernel
theorem dJ15_checkIndex_7cf53_6 : decode cJ15_checkIndex_7cf53 6 = .ok (.ireturn, 1) := by decide +kernel
set_option maxRecDepth 20000 in
theorem ggJ8_newLength_cabcc_J8_hugeLength_7cf53 : GoodIn wsJ8_newLength_cabcc wsJ8_hugeLength_7cf53 := goodIn_r _ [9, 5] (by decide +kernel) (by decide +kernel)
set_option maxRecDepth 20000 in
theorem gJ8_newLength_cabcc_J8_hugeLength_7cf53 : GoodIn wsJ8_newLength_cabcc (va_wsS RJ8 201 yJ8_hugeLength_7cf53 wsJ8_hugeLength_7cf53) := goodIn_app (goodIn_of _ (by decide +kernel)) ggJ8_newLength_cabcc_J8_hugeLength_7cf53
theorem dJ8_newLength_cabcc_0 : decode cJ8_newLength_cabcc 0 = .ok (.iload_n 0, 1) := by decide +kernel
theorem dJ8_newLength_cabcc_1 : decode cJ8_newLength_cabcc 1 = .ok (.iload_n 1, 1) := by decide +kernel
theorem dJ8_newLength_cabcc_2 : decode cJ8_newLength_cabcc 2 = .ok (.iload_n 2, 1) := by decide +kernel
theorem dJ8_newLength_cabcc_3 : decode cJ8_newLength_cabcc 3 = .ok (.invokestatic 194, 3) := by decide +kernel
theorem dJ8_newLength_cabcc_6 : decode cJ8_newLength_cabcc 6 = .ok (.iadd, 1) := by decide +kernel
theorem dJ8_newLength_cabcc_7 : decode cJ8_newLength_cabcc 7 = .ok (.istore_n 3, 1) := by decide +kernel
theorem dJ8_newLength_cabcc_8 : decode cJ8_newLength_cabcc 8 = .ok (.iconst 0, 1) := by decide +kernel
theorem dJ8_newLength_cabcc_9 : decode cJ8_newLength_cabcc 9 = .ok (.iload_n 3, 1) := by decide +kernel
theorem dJ8_newLength_cabcc_10 : decode cJ8_newLength_cabcc 10 = .ok (.if_icmp .ge 11, 3) := by decide +kernel
theorem dJ8_newLength_cabcc_13 : decode cJ8_newLength_cabcc 13 = .ok (.iload_n 3, 1) := by decide +kernel
theorem dJ8_newLength_cabcc_14 : decode cJ8_newLength_cabcc 14 = .ok (.ldc 200, 2) := by decide +kernel
theorem dJ8_newLength_cabcc_16 : decode cJ8_newLength_cabcc 16 = .ok (.if_icmp .gt 5, 3) := by decide +kernel
theorem dJ8_newLength_cabcc_19 : decode cJ8_newLength_cabcc 19 = .ok (.iload_n 3, 1) := by decide +kernel
theorem dJ8_newLength_cabcc_20 : decode cJ8_newLength_cabcc 20 = .ok (.ireturn, 1) := by decide +kernel
theorem dJ8_newLength_cabcc_21 : decode cJ8_newLength_cabcc 21 = .ok (.iload_n 0, 1) := by decide +kernel
theorem dJ8_newLength_cabcc_22 : decode cJ8_newLength_cabcc 22 = .ok (.iload_n 1, 1) := by decide +kernel
theorem dJ8_newLength_cabcc_23 : decode cJ8_newLength_cabcc 23 = .ok (.invokestatic 201, 3) := by decide +kernel
theorem dJ8_newLength_cabcc_26 : decode cJ8_newLength_cabcc 26 = .ok (.ireturn, 1) := by decide +kernel
theorem dJ8_hugeLength_7cf53_0 : decode cJ8_hugeLength_7cf53 0 = .ok (.iload_n 0, 1) := by decide +kernel
theorem dJ8_hugeLength_7cf53_1 : decode cJ8_hugeLength_7cf53 1 = .ok (.iload_n 1, 1) := by decide +kernel
theorem dJ8_hugeLength_7cf53_2 : decode cJ8_hugeLength_7cf53 2 = .ok (.iadd, 1) := by decide +kernel
theorem dJ8_hugeLength_7cf53_3 : decode cJ8_hugeLength_7cf53 3 = .ok (.istore_n 2, 1) := by decide +kernel
theorem dJ8_hugeLength_7cf53_4 : decode cJ8_hugeLength_7cf53 4 = .ok (.iload_n 2, 1) := by decide +kernel
theorem dJ8_hugeLength_7cf53_5 : decode cJ8_hugeLength_7cf53 5 = .ok (.ifCond .ge 44, 3) := by decide +kernel
theorem dJ8_hugeLength_7cf53_8 : decode cJ8_hugeLength_7cf53 8 = .ok (.new 204, 3) := by decide +kernel
theorem dJ8_hugeLength_7cf53_11 : decode cJ8_hugeLength_7cf53 11 = .ok (.dup, 1) := by decide +kernel
theorem dJ8_hugeLength_7cf53_12 : decode cJ8_hugeLength_7cf53 12 = .ok (.new 89, 3) := by decide +kernel
theorem dJ8_hugeLength_7cf53_15 : decode cJ8_hugeLength_7cf53 15 = .ok (.dup, 1) := by decide +kernel
theorem dJ8_hugeLength_7cf53_16 : decode cJ8_hugeLength_7cf53 16 = .ok (.invokespecial 91, 3) := by decide +kernel
theorem dJ8_hugeLength_7cf53_19 : decode cJ8_hugeLength_7cf53 19 = .ok (.ldc 206, 2) := by decide +kernel
theorem dJ8_hugeLength_7cf53_21 : decode cJ8_hugeLength_7cf53 21 = .ok (.invokevirtual 94, 3) := by decide +kernel
theorem dJ8_hugeLength_7cf53_24 : decode cJ8_hugeLength_7cf53 24 = .ok (.iload_n 0, 1) := by decide +kernel
theorem dJ8_hugeLength_7cf53_25 : decode cJ8_hugeLength_7cf53 25 = .ok (.invokevirtual 98, 3) := by decide +kernel
theorem dJ8_hugeLength_7cf53_28 : decode cJ8_hugeLength_7cf53 28 = .ok (.ldc 208, 2) := by decide +kernel
theorem dJ8_hugeLength_7cf53_30 : decode cJ8_hugeLength_7cf53 30 = .ok (.invokevirtual 94, 3) := by decide +kernel
theorem dJ8_hugeLength_7cf53_33 : decode cJ8_hugeLength_7cf53 33 = .ok (.iload_n 1, 1) := by decide +kernel
theorem dJ8_hugeLength_7cf53_34 : decode cJ8_hugeLength_7cf53 34 = .ok (.invokevirtual 98, 3) := by decide +kernel
theorem dJ8_hugeLength_7cf53_37 : decode cJ8_hugeLength_7cf53 37 = .ok (.ldc 210, 2) := by decide +kernel
theorem dJ8_hugeLength_7cf53_39 : decode cJ8_hugeLength_7cf53 39 = .ok (.invokevirtual 94, 3) := by decide +kernel
theorem dJ8_hugeLength_7cf53_42 : decode cJ8_hugeLength_7cf53 42 = .ok (.invokevirtual 101, 3) := by decide +kernel
theorem dJ8_hugeLength_7cf53_45 : decode cJ8_hugeLength_7cf53 45 = .ok (.invokespecial 212, 3) := by decide +kernel
theorem dJ8_hugeLength_7cf53_48 : decode cJ8_hugeLength_7cf53 48 = .ok (.athrow, 1) := by decide +kernel
theorem dJ8_hugeLength_7cf53_49 : decode cJ8_hugeLength_7cf53 49 = .ok (.iload_n 2, 1) := by decide +kernel
theorem dJ8_hugeLength_7cf53_50 : decode cJ8_hugeLength_7cf53 50 = .ok (.ldc 200, 2) := by decide +kernel
theorem dJ8_hugeLength_7cf53_52 : decode cJ8_hugeLength_7cf53 52 = .ok (.if_icmp .gt 6, 3) := by decide +kernel
theorem dJ8_hugeLength_7cf53_55 : decode cJ8_hugeLength_7cf53 55 = .ok (.ldc 200, 2) := by decide +kernel
theorem dJ8_hugeLength_7cf53_57 : decode cJ8_hugeLength_7cf53 57 = .ok (.ireturn, 1) := by decide +kernel
theorem dJ8_hugeLength_7cf53_58 : decode cJ8_hugeLength_7cf53 58 = .ok (.iload_n 2, 1) := by decide +kernel
theorem dJ8_hugeLength_7cf53_59 : decode cJ8_hugeLength_7cf53 59 = .ok (.ireturn, 1) := by decide +kernel
theorem dJ3_checkIndex_8e157_0 : decode cJ3_checkIndex_8e157 0 = .ok (.iload_n 0, 1) := by decide +kernel
theorem dJ3_checkIndex_8e157_1 : decode cJ3_checkIndex_8e157 1 = .ok (.ifCond .lt 8, 3) := by decide +kernel
theorem dJ3_checkIndex_8e157_4 : decode cJ3_checkIndex_8e157 4 = .ok (.iload_n 0, 1) := by decide +kernel
theorem dJ3_checkIndex_8e157_5 : decode cJ3_checkIndex_8e157 5 = .ok (.iload_n 1, 1) := by decide +kernel
theorem dJ3_checkIndex_8e157_6 : decode cJ3_checkIndex_8e157 6 = .ok (.if_icmp .lt 10, 3) := by decide +kernel
theorem dJ3_checkIndex_8e157_9 : decode cJ3_checkIndex_8e157 9 = .ok (.aload_n 2, 1) := by decide +kernel
theorem dJ3_checkIndex_8e157_10 : decode cJ3_checkIndex_8e157 10 = .ok (.iload_n 0, 1) := by decide +kernel
theorem dJ3_checkIndex_8e157_11 : decode cJ3_checkIndex_8e157 11 = .ok (.iload_n 1, 1) := by decide +kernel
theorem dJ3_checkIndex_8e157_12 : decode cJ3_checkIndex_8e157 12 = .ok (.invokestatic 95, 3) := by decide +kernel
theorem dJ3_checkIndex_8e157_15 : decode cJ3_checkIndex_8e157 15 = .ok (.athrow, 1) := by decide +kernel
theorem dJ3_checkIndex_8e157_16 : decode cJ3_checkIndex_8e157 16 = .ok (.iload_n 0, 1) := by decide +kernel
theorem dJ3_checkIndex_8e157_17 : decode cJ3_checkIndex_8e157 17 = .ok (.ireturn, 1) := by decide +kernel
set_option maxRecDepth 20000 in
theorem ggL_setRates_X2_setRates : GoodIn wsL_setRates wsX2_setRates := goodIn_ca (goodIn_ca (goodIn_r _ [7, 8, 9, 10, 11, 12, 6, 13, 14, 15, 16, 17, 18, 19, 20, 21, 22, 23, 24, 25, 26, 27, 28, 29, 30, 31, 32, 33, 34, 35, 36, 37, 38, 39, 40, 41, 42, 43, 44, 45, 46] (by decide +kernel) (by decide +kernel)) (goodIn_sub (fun _ h => List.mem_cons_of_mem _ (List.mem_append_left _ (List.mem_append_right _ h))) (by decide +kernel))) (goodIn_sub (fun _ h => List.mem_cons_of_mem _ (List.mem_append_right _ h)) (by decide +kernel))
set_option maxRecDepth 20000 in
theorem gL_setRates_X2_setRates : GoodIn wsL_setRates (wsV RL 7 RX2 yX2_setRates wsX2_setRates) := goodIn_app (goodIn_of _ (by decide +kernel)) ggL_setRates_X2_setRates
theorem dL_setRates_0 : decode cL_setRates 0 = .ok (.aload_n 0, 1) := by decide +kernel
theorem dL_setRates_1 : decode cL_setRates 1 = .ok (.iload_n 1, 1) := by decide +kernel
theorem dL_setRates_2 : decode cL_setRates 2 = .ok (.iload_n 2, 1) := by decide +kernel
theorem dL_setRates_3 : decode cL_setRates 3 = .ok (.iload_n 3, 1) := by decide +kernel
theorem dL_setRates_4 : decode cL_setRates 4 = .ok (.iload 4, 2) := by decide +kernel
theorem dL_setRates_6 : decode cL_setRates 6 = .ok (.invokevirtual 7, 3) := by decide +kernel
theorem dL_setRates_9 : decode cL_setRates 9 = .ok (.goto 11, 3) := by decide +kernel
theorem dL_setRates_12 : decode cL_setRates 12 = .ok (.astore 5, 2) := by decide +kernel
theorem dL_setRates_14 : decode cL_setRates 14 = .ok (.iconst 1, 1) := by decide +kernel
theorem dL_setRates_15 : decode cL_setRates 15 = .ok (.ireturn, 1) := by decide +kernel
theorem dL_setRates_16 : decode cL_setRates 16 = .ok (.astore 5, 2) := by decide +kernel
theorem dL_setRates_18 : decode cL_setRates 18 = .ok (.iconst 2, 1) := by decide +kernel
theorem dL_setRates_19 : decode cL_setRates 19 = .ok (.ireturn, 1) := by decide +kernel
theorem dL_setRates_20 : decode cL_setRates 20 = .ok (.iconst 0, 1) := by decide +kernel
theorem dL_setRates_21 : decode cL_setRates 21 = .ok (.ireturn, 1) := by decide +kernel
set_option maxRecDepth 20000 in
theorem ggL_setFee_X2_setFee : GoodIn wsL_setFee wsX2_setFee := goodIn_ca (goodIn_ca (goodIn_r _ [7, 8, 9, 10, 6, 11, 12, 13, 14, 15, 16, 17, 18, 19, 20, 21, 22, 23, 24, 25, 26, 27, 28, 29, 30, 31, 32, 33, 34, 35, 36, 37, 38, 39, 40, 41, 42, 43, 44, 45, 46, 47] (by decide +kernel) (by decide +kernel)) (goodIn_sub (fun _ h => List.mem_cons_of_mem _ (List.mem_append_left _ (List.mem_append_right _ h))) (by decide +kernel))) (goodIn_sub (fun _ h => List.mem_cons_of_mem _ (List.mem_append_right _ h)) (by decide +kernel))
set_option maxRecDepth 20000 in
theorem gL_setFee_X2_setFee : GoodIn wsL_setFee (wsV RL 17 RX2 yX2_setFee wsX2_setFee) := goodIn_app (goodIn_of _ (by decide +kernel)) ggL_setFee_X2_setFee
theorem dL_setFee_0 : decode cL_setFee 0 = .ok (.aload 4, 2) := by decide +kernel
theorem dL_setFee_2 : decode cL_setFee 2 = .ok (.iconst 0, 1) := by decide +kernel
theorem dL_setFee_3 : decode cL_setFee 3 = .ok (.aload_n 0, 1) := by decide +kernel
theorem dL_setFee_4 : decode cL_setFee 4 = .ok (.iload_n 1, 1) := by decide +kernel
theorem dL_setFee_5 : decode cL_setFee 5 = .ok (.iload_n 2, 1) := by decide +kernel
theorem dL_setFee_6 : decode cL_setFee 6 = .ok (.iload_n 3, 1) := by decide +kernel
theorem dL_setFee_7 : decode cL_setFee 7 = .ok (.invokevirtual 17, 3) := by decide +kernel
theorem dL_setFee_10 : decode cL_setFee 10 = .ok (.i2l, 1) := by decide +kernel
theorem dL_setFee_11 : decode cL_setFee 11 = .ok (.lastore, 1) := by decide +kernel
theorem dL_setFee_12 : decode cL_setFee 12 = .ok (.goto 11, 3) := by decide +kernel
theorem dL_setFee_15 : decode cL_setFee 15 = .ok (.astore 5, 2) := by decide +kernel
theorem dL_setFee_17 : decode cL_setFee 17 = .ok (.iconst 1, 1) := by decide +kernel
theorem dL_setFee_18 : decode cL_setFee 18 = .ok (.ireturn, 1) := by decide +kernel
theorem dL_setFee_19 : decode cL_setFee 19 = .ok (.astore 5, 2) := by decide +kernel
theorem dL_setFee_21 : decode cL_setFee 21 = .ok (.iconst 2, 1) := by decide +kernel
theorem dL_setFee_22 : decode cL_setFee 22 = .ok (.ireturn, 1) := by decide +kernel
theorem dL_setFee_23 : decode cL_setFee 23 = .ok (.iconst 0, 1) := by decide +kernel
theorem dL_setFee_24 : decode cL_setFee 24 = .ok (.ireturn, 1) := by decide +kernel
set_option maxRecDepth 20000 in
theorem ggL_add_X2_add : GoodIn wsL_add wsX2_add := goodIn_ca (goodIn_ca (goodIn_ca (goodIn_r _ [8, 9, 10, 11, 12, 13, 14, 15, 16, 17, 18, 19, 20, 7, 21, 22, 23, 24, 25, 26, 27, 28, 29, 30, 31, 32, 33, 34, 35, 36, 37, 38, 39, 40, 41, 42, 43, 44, 45, 46, 47, 48, 49, 50, 51, 52, 53, 54, 55, 56, 57, 58, 59, 60, 61, 62, 63, 64, 65, 66, 67, 68, 69, 70, 71, 72, 73, 74, 75, 76, 77, 78, 79, 80, 81, 82, 83, 84, 85, 86, 87, 88, 89, 90, 91, 92, 93, 94, 95, 96, 97, 98, 99, 100, 101, 102, 103, 104, 105, 106, 107, 108, 109, 110, 111, 112, 113, 114, 115, 116, 117, 118, 119, 120, 121, 122, 123, 124, 125, 126, 127, 128, 129, 130, 131, 132, 133, 134, 135, 136, 137, 138, 139, 140, 141, 142, 143, 144, 145, 146, 147, 148, 149, 150, 151, 152, 153, 154, 155, 156, 157, 158, 159, 160, 161, 162, 163, 164, 165, 166, 167] (by decide +kernel) (by decide +kernel)) (goodIn_sub (fun _ h => List.mem_cons_of_mem _ (List.mem_append_left _ (List.mem_append_left _ (List.mem_append_right _ h)))) (by decide +kernel))) (goodIn_sub (fun _ h => List.mem_cons_of_mem _ (List.mem_append_left _ (List.mem_append_right _ h))) (by decide +kernel))) (goodIn_sub (fun _ h => List.mem_cons_of_mem _ (List.mem_append_right _ h)) (by decide +kernel))
set_option maxRecDepth 20000 in
theorem gL_add_X2_add : GoodIn wsL_add (wsV RL 21 RX2 yX2_add wsX2_add) := goodIn_app (goodIn_of _ (by decide +kernel)) ggL_add_X2_add
theorem dL_add_0 : decode cL_add 0 = .ok (.aload 6, 2) := by decide +kernel
theorem dL_add_2 : decode cL_add 2 = .ok (.iconst 0, 1) := by decide +kernel
theorem dL_add_3 : decode cL_add 3 = .ok (.aload_n 0, 1) := by decide +kernel
theorem dL_add_4 : decode cL_add 4 = .ok (.iload_n 1, 1) := by decide +kernel
theorem dL_add_5 : decode cL_add 5 = .ok (.iload_n 2, 1) := by decide +kernel
theorem dL_add_6 : decode cL_add 6 = .ok (.iload_n 3, 1) := by decide +kernel
theorem dL_add_7 : decode cL_add 7 = .ok (.iload 4, 2) := by decide +kernel
theorem dL_add_9 : decode cL_add 9 = .ok (.iload 5, 2) := by decide +kernel
theorem dL_add_11 : decode cL_add 11 = .ok (.invokevirtual 21, 3) := by decide +kernel
theorem dL_add_14 : decode cL_add 14 = .ok (.i2l, 1) := by decide +kernel
theorem dL_add_15 : decode cL_add 15 = .ok (.lastore, 1) := by decide +kernel
theorem dL_add_16 : decode cL_add 16 = .ok (.goto 15, 3) := by decide +kernel
theorem dL_add_19 : decode cL_add 19 = .ok (.astore 7, 2) := by decide +kernel
theorem dL_add_21 : decode cL_add 21 = .ok (.iconst 1, 1) := by decide +kernel
theorem dL_add_22 : decode cL_add 22 = .ok (.ireturn, 1) := by decide +kernel
theorem dL_add_23 : decode cL_add 23 = .ok (.astore 7, 2) := by decide +kernel
theorem dL_add_25 : decode cL_add 25 = .ok (.iconst 2, 1) := by decide +kernel
theorem dL_add_26 : decode cL_add 26 = .ok (.ireturn, 1) := by decide +kernel
theorem dL_add_27 : decode cL_add 27 = .ok (.astore 7, 2) := by decide +kernel
theorem dL_add_29 : decode cL_add 29 = .ok (.iconst 3, 1) := by decide +kernel
theorem dL_add_30 : decode cL_add 30 = .ok (.ireturn, 1) := by decide +kernel
theorem dL_add_31 : decode cL_add 31 = .ok (.iconst 0, 1) := by decide +kernel
theorem dL_add_32 : decode cL_add 32 = .ok (.ireturn, 1) := by decide +kernel
set_option maxRecDepth 20000 in
theorem ggL_receive_X2_receive : GoodIn wsL_receive wsX2_receive := goodIn_ca (goodIn_ca (goodIn_r _ [7, 8, 9, 10, 11, 12, 6, 13, 14, 15, 16, 17, 18, 19, 20, 21, 22, 23, 24, 25, 26, 27, 28, 29, 30, 31, 32, 33, 34, 35, 36, 37, 38, 39, 40, 41, 42, 43, 44, 45, 46, 47, 48, 49] (by decide +kernel) (by decide +kernel)) (goodIn_sub (fun _ h => List.mem_cons_of_mem _ (List.mem_append_left _ (List.mem_append_right _ h))) (by decide +kernel))) (goodIn_sub (fun _ h => List.mem_cons_of_mem _ (List.mem_append_right _ h)) (by decide +kernel))
set_option maxRecDepth 20000 in
theorem gL_receive_X2_receive : GoodIn wsL_receive (wsV RL 27 RX2 yX2_receive wsX2_receive) := goodIn_app (goodIn_of _ (by decide +kernel)) ggL_receive_X2_receive
theorem dL_receive_0 : decode cL_receive 0 = .ok (.aload 4, 2) := by decide +kernel
theorem dL_receive_2 : decode cL_receive 2 = .ok (.iconst 0, 1) := by decide +kernel
theorem dL_receive_3 : decode cL_receive 3 = .ok (.aload_n 0, 1) := by decide +kernel
theorem dL_receive_4 : decode cL_receive 4 = .ok (.iload_n 1, 1) := by decide +kernel
theorem dL_receive_5 : decode cL_receive 5 = .ok (.iload_n 2, 1) := by decide +kernel
theorem dL_receive_6 : decode cL_receive 6 = .ok (.iload_n 3, 1) := by decide +kernel
theorem dL_receive_7 : decode cL_receive 7 = .ok (.invokevirtual 27, 3) := by decide +kernel
theorem dL_receive_10 : decode cL_receive 10 = .ok (.i2l, 1) := by decide +kernel
theorem dL_receive_11 : decode cL_receive 11 = .ok (.lastore, 1) := by decide +kernel
theorem dL_receive_12 : decode cL_receive 12 = .ok (.goto 11, 3) := by decide +kernel
theorem dL_receive_15 : decode cL_receive 15 = .ok (.astore 5, 2) := by decide +kernel
theorem dL_receive_17 : decode cL_receive 17 = .ok (.iconst 1, 1) := by decide +kernel
theorem dL_receive_18 : decode cL_receive 18 = .ok (.ireturn, 1) := by decide +kernel
theorem dL_receive_19 : decode cL_receive 19 = .ok (.astore 5, 2) := by decide +kernel
theorem dL_receive_21 : decode cL_receive 21 = .ok (.iconst 2, 1) := by decide +kernel
theorem dL_receive_22 : decode cL_receive 22 = .ok (.ireturn, 1) := by decide +kernel
theorem dL_receive_23 : decode cL_receive 23 = .ok (.iconst 0, 1) := by decide +kernel
theorem dL_receive_24 : decode cL_receive 24 = .ok (.ireturn, 1) := by decide +kernel
set_option maxRecDepth 20000 in
theorem ggL_spend_X2_spend : GoodIn wsL_spend wsX2_spend := goodIn_ca (goodIn_ca (goodIn_r _ [7, 8, 9, 10, 11, 12, 6, 13, 14, 15, 16, 17, 18, 19, 20, 21, 22, 23, 24, 25, 26, 27, 28, 29, 30, 31, 32, 33, 34, 35, 36, 37, 38, 39, 40, 41, 42, 43, 44, 45, 46] (by decide +kernel) (by decide +kernel)) (goodIn_sub (fun _ h => List.mem_cons_of_mem _ (List.mem_append_left _ (List.mem_append_right _ h))) (by decide +kernel))) (goodIn_sub (fun _ h => List.mem_cons_of_mem _ (List.mem_append_right _ h)) (by decide +kernel))
set_option maxRecDepth 20000 in
theorem gL_spend_X2_spend : GoodIn wsL_spend (wsV RL 30 RX2 yX2_spend wsX2_spend) := goodIn_app (goodIn_of _ (by decide +kernel)) ggL_spend_X2_spend
theorem dL_spend_0 : decode cL_spend 0 = .ok (.aload_n 3, 1) := by decide +kernel
theorem dL_spend_1 : decode cL_spend 1 = .ok (.iconst 0, 1) := by decide +kernel
theorem dL_spend_2 : decode cL_spend 2 = .ok (.aload_n 0, 1) := by decide +kernel
theorem dL_spend_3 : decode cL_spend 3 = .ok (.iload_n 1, 1) := by decide +kernel
theorem dL_spend_4 : decode cL_spend 4 = .ok (.iload_n 2, 1) := by decide +kernel
theorem dL_spend_5 : decode cL_spend 5 = .ok (.invokevirtual 30, 3) := by decide +kernel
theorem dL_spend_8 : decode cL_spend 8 = .ok (.i2l, 1) := by decide +kernel
theorem dL_spend_9 : decode cL_spend 9 = .ok (.lastore, 1) := by decide +kernel
theorem dL_spend_10 : decode cL_spend 10 = .ok (.goto 11, 3) := by decide +kernel
theorem dL_spend_13 : decode cL_spend 13 = .ok (.astore 4, 2) := by decide +kernel
theorem dL_spend_15 : decode cL_spend 15 = .ok (.iconst 1, 1) := by decide +kernel
theorem dL_spend_16 : decode cL_spend 16 = .ok (.ireturn, 1) := by decide +kernel
theorem dL_spend_17 : decode cL_spend 17 = .ok (.astore 4, 2) := by decide +kernel
theorem dL_spend_19 : decode cL_spend 19 = .ok (.iconst 2, 1) := by decide +kernel
theorem dL_spend_20 : decode cL_spend 20 = .ok (.ireturn, 1) := by decide +kernel
theorem dL_spend_21 : decode cL_spend 21 = .ok (.iconst 0, 1) := by decide +kernel
theorem dL_spend_22 : decode cL_spend 22 = .ok (.ireturn, 1) := by decide +kernel
set_option maxRecDepth 20000 in
theorem ggL_audit_X2_audit : GoodIn wsL_audit wsX2_audit := goodIn_ca (goodIn_ca (goodIn_ca (goodIn_r _ [8, 9, 10, 11, 12, 7, 13, 14, 15, 16, 17, 18, 19, 20, 21, 22, 23, 24, 25, 26, 27, 28, 29, 30, 31, 32, 33, 34, 35, 36, 37, 38, 39, 40, 41, 42, 43, 44, 45, 46, 47, 48, 49, 50, 51, 52, 53, 54, 55, 56] (by decide +kernel) (by decide +kernel)) (goodIn_sub (fun _ h => List.mem_cons_of_mem _ (List.mem_append_left _ (List.mem_append_left _ (List.mem_append_right _ h)))) (by decide +kernel))) (goodIn_sub (fun _ h => List.mem_cons_of_mem _ (List.mem_append_left _ (List.mem_append_right _ h))) (by decide +kernel))) (goodIn_sub (fun _ h => List.mem_cons_of_mem _ (List.mem_append_right _ h)) (by decide +kernel))
set_option maxRecDepth 20000 in
theorem gL_audit_X2_audit : GoodIn wsL_audit (wsV RL 34 RX2 yX2_audit wsX2_audit) := goodIn_app (goodIn_of _ (by decide +kernel)) ggL_audit_X2_audit
theorem dL_audit_0 : decode cL_audit 0 = .ok (.aload 5, 2) := by decide +kernel
theorem dL_audit_2 : decode cL_audit 2 = .ok (.iconst 0, 1) := by decide +kernel
theorem dL_audit_3 : decode cL_audit 3 = .ok (.aload_n 0, 1) := by decide +kernel
theorem dL_audit_4 : decode cL_audit 4 = .ok (.iload_n 1, 1) := by decide +kernel
theorem dL_audit_5 : decode cL_audit 5 = .ok (.iload_n 2, 1) := by decide +kernel
theorem dL_audit_6 : decode cL_audit 6 = .ok (.iload_n 3, 1) := by decide +kernel
theorem dL_audit_7 : decode cL_audit 7 = .ok (.iload 4, 2) := by decide +kernel
theorem dL_audit_9 : decode cL_audit 9 = .ok (.invokevirtual 34, 3) := by decide +kernel
theorem dL_audit_12 : decode cL_audit 12 = .ok (.i2l, 1) := by decide +kernel
theorem dL_audit_13 : decode cL_audit 13 = .ok (.lastore, 1) := by decide +kernel
theorem dL_audit_14 : decode cL_audit 14 = .ok (.goto 15, 3) := by decide +kernel
theorem dL_audit_17 : decode cL_audit 17 = .ok (.astore 6, 2) := by decide +kernel
theorem dL_audit_19 : decode cL_audit 19 = .ok (.iconst 1, 1) := by decide +kernel
theorem dL_audit_20 : decode cL_audit 20 = .ok (.ireturn, 1) := by decide +kernel
theorem dL_audit_21 : decode cL_audit 21 = .ok (.astore 6, 2) := by decide +kernel
theorem dL_audit_23 : decode cL_audit 23 = .ok (.iconst 2, 1) := by decide +kernel
theorem dL_audit_24 : decode cL_audit 24 = .ok (.ireturn, 1) := by decide +kernel
theorem dL_audit_25 : decode cL_audit 25 = .ok (.astore 6, 2) := by decide +kernel
theorem dL_audit_27 : decode cL_audit 27 = .ok (.iconst 3, 1) := by decide +kernel
theorem dL_audit_28 : decode cL_audit 28 = .ok (.ireturn, 1) := by decide +kernel
theorem dL_audit_29 : decode cL_audit 29 = .ok (.iconst 0, 1) := by decide +kernel
theorem dL_audit_30 : decode cL_audit 30 = .ok (.ireturn, 1) := by decide +kernel
set_option maxRecDepth 20000 in
theorem ggL_closeYear_X2_closeYear : GoodIn wsL_closeYear wsX2_closeYear := goodIn_ca (goodIn_r _ [6, 7, 8, 9, 10, 11, 12, 13, 14] (by decide +kernel) (by decide +kernel)) (goodIn_sub (fun _ h => List.mem_cons_of_mem _ (List.mem_append_right _ h)) (by decide +kernel))
set_option maxRecDepth 20000 in
theorem gL_closeYear_X2_closeYear : GoodIn wsL_closeYear (wsV RL 38 RX2 yX2_closeYear wsX2_closeYear) := goodIn_app (goodIn_of _ (by decide +kernel)) ggL_closeYear_X2_closeYear
theorem dL_closeYear_0 : decode cL_closeYear 0 = .ok (.aload_n 1, 1) := by decide +kernel
theorem dL_closeYear_1 : decode cL_closeYear 1 = .ok (.iconst 0, 1) := by decide +kernel
theorem dL_closeYear_2 : decode cL_closeYear 2 = .ok (.aload_n 0, 1) := by decide +kernel
theorem dL_closeYear_3 : decode cL_closeYear 3 = .ok (.invokevirtual 38, 3) := by decide +kernel
theorem dL_closeYear_6 : decode cL_closeYear 6 = .ok (.i2l, 1) := by decide +kernel
theorem dL_closeYear_7 : decode cL_closeYear 7 = .ok (.lastore, 1) := by decide +kernel
theorem dL_closeYear_8 : decode cL_closeYear 8 = .ok (.goto 6, 3) := by decide +kernel
theorem dL_closeYear_11 : decode cL_closeYear 11 = .ok (.astore_n 2, 1) := by decide +kernel
theorem dL_closeYear_12 : decode cL_closeYear 12 = .ok (.iconst 1, 1) := by decide +kernel
theorem dL_closeYear_13 : decode cL_closeYear 13 = .ok (.ireturn, 1) := by decide +kernel
theorem dL_closeYear_14 : decode cL_closeYear 14 = .ok (.iconst 0, 1) := by decide +kernel
theorem dL_closeYear_15 : decode cL_closeYear 15 = .ok (.ireturn, 1) := by decide +kernel
set_option maxRecDepth 20000 in
theorem ggL_pay_X2_pay : GoodIn wsL_pay wsX2_pay := goodIn_ca (goodIn_ca (goodIn_r _ [7, 8, 9, 10, 11, 12, 13, 14, 15, 6, 16, 17, 18, 19, 20, 21, 22, 23, 24, 25, 26, 27, 28, 29, 30, 31, 32, 33, 34, 35, 36, 37, 38, 39, 40, 41, 42, 43, 44, 45, 46, 47, 48, 49, 50, 51, 52, 53, 54, 55, 56, 57, 58, 59, 60, 61, 62, 63, 64, 65, 66, 67, 68, 69, 70, 71, 72, 73, 74, 75, 76, 77, 78, 79, 80, 81, 82, 83, 84, 85, 86, 87, 88, 89, 90, 91, 92, 93, 94, 95, 96, 97, 98, 99, 100, 101, 102, 103, 104, 105, 106, 107, 108, 109, 110, 111, 112, 113, 114, 115, 116, 117, 118, 119, 120, 121, 122, 123, 124, 125, 126, 127, 128, 129, 130, 131, 132, 133, 134, 135, 136, 137, 138, 139, 140, 141, 142, 143, 144, 145, 146, 147, 148, 149, 150, 151, 152, 153, 154, 155, 156, 157, 158, 159, 160, 161, 162, 163, 164, 165, 166, 167, 168] (by decide +kernel) (by decide +kernel)) (goodIn_sub (fun _ h => List.mem_cons_of_mem _ (List.mem_append_left _ (List.mem_append_right _ h))) (by decide +kernel))) (goodIn_sub (fun _ h => List.mem_cons_of_mem _ (List.mem_append_right _ h)) (by decide +kernel))
set_option maxRecDepth 20000 in
theorem gL_pay_X2_pay : GoodIn wsL_pay (wsV RL 42 RX2 yX2_pay wsX2_pay) := goodIn_app (goodIn_of _ (by decide +kernel)) ggL_pay_X2_pay
theorem dL_pay_0 : decode cL_pay 0 = .ok (.aload_n 2, 1) := by decide +kernel
theorem dL_pay_1 : decode cL_pay 1 = .ok (.iconst 0, 1) := by decide +kernel
theorem dL_pay_2 : decode cL_pay 2 = .ok (.aload_n 0, 1) := by decide +kernel
theorem dL_pay_3 : decode cL_pay 3 = .ok (.iload_n 1, 1) := by decide +kernel
theorem dL_pay_4 : decode cL_pay 4 = .ok (.invokevirtual 42, 3) := by decide +kernel
theorem dL_pay_7 : decode cL_pay 7 = .ok (.i2l, 1) := by decide +kernel
theorem dL_pay_8 : decode cL_pay 8 = .ok (.lastore, 1) := by decide +kernel
theorem dL_pay_9 : decode cL_pay 9 = .ok (.goto 9, 3) := by decide +kernel
theorem dL_pay_12 : decode cL_pay 12 = .ok (.astore_n 3, 1) := by decide +kernel
theorem dL_pay_13 : decode cL_pay 13 = .ok (.iconst 1, 1) := by decide +kernel
theorem dL_pay_14 : decode cL_pay 14 = .ok (.ireturn, 1) := by decide +kernel
theorem dL_pay_15 : decode cL_pay 15 = .ok (.astore_n 3, 1) := by decide +kernel
theorem dL_pay_16 : decode cL_pay 16 = .ok (.iconst 2, 1) := by decide +kernel
theorem dL_pay_17 : decode cL_pay 17 = .ok (.ireturn, 1) := by decide +kernel
theorem dL_pay_18 : decode cL_pay 18 = .ok (.iconst 0, 1) := by decide +kernel
theorem dL_pay_19 : decode cL_pay 19 = .ok (.ireturn, 1) := by decide +kernel
set_option maxRecDepth 20000 in
theorem ggL_gross_X2_gross : GoodIn wsL_gross wsX2_gross := goodIn_ca (goodIn_r _ [6, 7, 8, 9, 5, 10, 11, 12, 13, 14, 15, 16, 17, 18, 19, 20, 21, 22, 23, 24, 25, 26, 27, 28, 29, 30, 31, 32, 33, 34, 35, 36, 37, 38, 39, 40, 41, 42, 43, 44, 45, 46, 47, 48, 49, 50, 51, 52, 53, 54, 55, 56, 57, 58, 59, 60, 61, 62, 63, 64, 65, 66, 67, 68, 69, 70, 71, 72, 73, 74, 75, 76, 77, 78, 79, 80, 81, 82, 83, 84, 85, 86, 87, 88, 89, 90, 91, 92, 93, 94, 95, 96, 97, 98, 99, 100, 101, 102, 103, 104, 105, 106, 107, 108, 109, 110, 111, 112, 113, 114, 115, 116, 117, 118, 119, 120, 121, 122, 123, 124, 125, 126, 127, 128, 129, 130, 131, 132, 133, 134, 135, 136, 137, 138, 139, 140, 141, 142, 143, 144, 145] (by decide +kernel) (by decide +kernel)) (goodIn_sub (fun _ h => List.mem_cons_of_mem _ (List.mem_append_right _ h)) (by decide +kernel))
set_option maxRecDepth 20000 in
theorem gL_gross_X2_gross : GoodIn wsL_gross (wsV RL 46 RX2 yX2_gross wsX2_gross) := goodIn_app (goodIn_of _ (by decide +kernel)) ggL_gross_X2_gross
theorem dL_gross_0 : decode cL_gross 0 = .ok (.aload_n 2, 1) := by decide +kernel
theorem dL_gross_1 : decode cL_gross 1 = .ok (.iconst 0, 1) := by decide +kernel
theorem dL_gross_2 : decode cL_gross 2 = .ok (.aload_n 0, 1) := by decide +kernel
theorem dL_gross_3 : decode cL_gross 3 = .ok (.iload_n 1, 1) := by decide +kernel
theorem dL_gross_4 : decode cL_gross 4 = .ok (.invokevirtual 46, 3) := by decide +kernel
theorem dL_gross_7 : decode cL_gross 7 = .ok (.i2l, 1) := by decide +kernel
theorem dL_gross_8 : decode cL_gross 8 = .ok (.lastore, 1) := by decide +kernel
theorem dL_gross_9 : decode cL_gross 9 = .ok (.goto 6, 3) := by decide +kernel
theorem dL_gross_12 : decode cL_gross 12 = .ok (.astore_n 3, 1) := by decide +kernel
theorem dL_gross_13 : decode cL_gross 13 = .ok (.iconst 1, 1) := by decide +kernel
theorem dL_gross_14 : decode cL_gross 14 = .ok (.ireturn, 1) := by decide +kernel
theorem dL_gross_15 : decode cL_gross 15 = .ok (.iconst 0, 1) := by decide +kernel
theorem dL_gross_16 : decode cL_gross 16 = .ok (.ireturn, 1) := by decide +kernel
set_option maxRecDepth 20000 in
theorem ggL_adjusted_X2_adjusted : GoodIn wsL_adjusted wsX2_adjusted := goodIn_ca (goodIn_r _ [6, 7, 8, 9, 5, 10, 11, 12, 13, 14, 15, 16, 17, 18, 19, 20, 21, 22, 23, 24, 25, 26, 27, 28, 29, 30, 31, 32, 33, 34, 35, 36, 37, 38, 39, 40, 41, 42, 43, 44, 45, 46, 47, 48, 49, 50, 51, 52, 53, 54, 55, 56, 57, 58, 59, 60, 61, 62, 63, 64, 65, 66, 67, 68, 69, 70, 71, 72, 73, 74, 75, 76, 77, 78, 79, 80, 81, 82, 83, 84, 85, 86, 87, 88, 89, 90, 91, 92, 93, 94, 95, 96, 97, 98, 99, 100, 101, 102, 103, 104, 105, 106, 107, 108, 109, 110, 111, 112, 113, 114, 115, 116, 117, 118, 119, 120, 121, 122, 123, 124, 125, 126, 127, 128, 129, 130, 131, 132, 133, 134, 135, 136, 137, 138, 139, 140, 141, 142, 143, 144, 145] (by decide +kernel) (by decide +kernel)) (goodIn_sub (fun _ h => List.mem_cons_of_mem _ (List.mem_append_right _ h)) (by decide +kernel))
set_option maxRecDepth 20000 in
theorem gL_adjusted_X2_adjusted : GoodIn wsL_adjusted (wsV RL 49 RX2 yX2_adjusted wsX2_adjusted) := goodIn_app (goodIn_of _ (by decide +kernel)) ggL_adjusted_X2_adjusted
theorem dL_adjusted_0 : decode cL_adjusted 0 = .ok (.aload_n 2, 1) := by decide +kernel
theorem dL_adjusted_1 : decode cL_adjusted 1 = .ok (.iconst 0, 1) := by decide +kernel
theorem dL_adjusted_2 : decode cL_adjusted 2 = .ok (.aload_n 0, 1) := by decide +kernel
theorem dL_adjusted_3 : decode cL_adjusted 3 = .ok (.iload_n 1, 1) := by decide +kernel
theorem dL_adjusted_4 : decode cL_adjusted 4 = .ok (.invokevirtual 49, 3) := by decide +kernel
theorem dL_adjusted_7 : decode cL_adjusted 7 = .ok (.i2l, 1) := by decide +kernel
theorem dL_adjusted_8 : decode cL_adjusted 8 = .ok (.lastore, 1) := by decide +kernel
theorem dL_adjusted_9 : decode cL_adjusted 9 = .ok (.goto 6, 3) := by decide +kernel
theorem dL_adjusted_12 : decode cL_adjusted 12 = .ok (.astore_n 3, 1) := by decide +kernel
theorem dL_adjusted_13 : decode cL_adjusted 13 = .ok (.iconst 1, 1) := by decide +kernel
theorem dL_adjusted_14 : decode cL_adjusted 14 = .ok (.ireturn, 1) := by decide +kernel
theorem dL_adjusted_15 : decode cL_adjusted 15 = .ok (.iconst 0, 1) := by decide +kernel
theorem dL_adjusted_16 : decode cL_adjusted 16 = .ok (.ireturn, 1) := by decide +kernel
set_option maxRecDepth 20000 in
theorem ggL_fees_X2_fees : GoodIn wsL_fees wsX2_fees := goodIn_ca (goodIn_r _ [6, 7, 8, 9, 5, 10, 11, 12, 13, 14, 15, 16, 17, 18, 19, 20, 21, 22, 23, 24, 25, 26, 27, 28, 29, 30, 31, 32, 33, 34, 35, 36, 37, 38, 39, 40, 41, 42, 43, 44, 45, 46, 47, 48, 49, 50, 51, 52, 53, 54, 55, 56, 57, 58, 59, 60, 61, 62, 63, 64, 65, 66, 67, 68, 69, 70, 71, 72, 73, 74, 75, 76, 77, 78, 79, 80, 81, 82, 83, 84, 85, 86, 87, 88, 89, 90, 91, 92, 93, 94, 95, 96, 97, 98, 99, 100, 101, 102, 103, 104, 105, 106, 107, 108, 109, 110, 111, 112, 113, 114, 115, 116, 117, 118, 119, 120, 121, 122, 123, 124, 125, 126, 127, 128, 129, 130, 131, 132, 133, 134, 135, 136, 137, 138, 139, 140, 141, 142, 143, 144, 145] (by decide +kernel) (by decide +kernel)) (goodIn_sub (fun _ h => List.mem_cons_of_mem _ (List.mem_append_right _ h)) (by decide +kernel))
set_option maxRecDepth 20000 in
theorem gL_fees_X2_fees : GoodIn wsL_fees (wsV RL 52 RX2 yX2_fees wsX2_fees) := goodIn_app (goodIn_of _ (by decide +kernel)) ggL_fees_X2_fees
theorem dL_fees_0 : decode cL_fees 0 = .ok (.aload_n 2, 1) := by decide +kernel
theorem dL_fees_1 : decode cL_fees 1 = .ok (.iconst 0, 1) := by decide +kernel
theorem dL_fees_2 : decode cL_fees 2 = .ok (.aload_n 0, 1) := by decide +kernel
theorem dL_fees_3 : decode cL_fees 3 = .ok (.iload_n 1, 1) := by decide +kernel
theorem dL_fees_4 : decode cL_fees 4 = .ok (.invokevirtual 52, 3) := by decide +kernel
theorem dL_fees_7 : decode cL_fees 7 = .ok (.i2l, 1) := by decide +kernel
theorem dL_fees_8 : decode cL_fees 8 = .ok (.lastore, 1) := by decide +kernel
theorem dL_fees_9 : decode cL_fees 9 = .ok (.goto 6, 3) := by decide +kernel
theorem dL_fees_12 : decode cL_fees 12 = .ok (.astore_n 3, 1) := by decide +kernel
theorem dL_fees_13 : decode cL_fees 13 = .ok (.iconst 1, 1) := by decide +kernel
theorem dL_fees_14 : decode cL_fees 14 = .ok (.ireturn, 1) := by decide +kernel
theorem dL_fees_15 : decode cL_fees 15 = .ok (.iconst 0, 1) := by decide +kernel
theorem dL_fees_16 : decode cL_fees 16 = .ok (.ireturn, 1) := by decide +kernel
set_option maxRecDepth 20000 in
theorem ggL_balance_X2_balance : GoodIn wsL_balance wsX2_balance := goodIn_ca (goodIn_ca (goodIn_r _ [7, 8, 9, 10, 11, 6, 12, 13, 14, 15, 16, 17, 18, 19, 20, 21, 22, 23, 24, 25, 26, 27, 28, 29, 30, 31, 32, 33, 34, 35, 36, 37, 38, 39, 40, 41, 42, 43, 44, 45, 46, 47, 48, 49, 50, 51, 52, 53, 54, 55, 56, 57, 58, 59, 60, 61, 62, 63, 64, 65, 66, 67, 68, 69, 70, 71, 72, 73, 74, 75, 76, 77, 78, 79, 80, 81, 82, 83, 84, 85, 86, 87, 88, 89, 90, 91, 92, 93, 94, 95, 96, 97, 98, 99, 100, 101, 102, 103, 104, 105, 106, 107, 108, 109, 110, 111, 112, 113, 114, 115, 116, 117, 118, 119, 120, 121, 122, 123, 124, 125, 126, 127, 128, 129, 130, 131, 132, 133, 134, 135, 136, 137, 138, 139, 140, 141, 142, 143, 144, 145, 146, 147, 148, 149, 150, 151] (by decide +kernel) (by decide +kernel)) (goodIn_sub (fun _ h => List.mem_cons_of_mem _ (List.mem_append_left _ (List.mem_append_right _ h))) (by decide +kernel))) (goodIn_sub (fun _ h => List.mem_cons_of_mem _ (List.mem_append_right _ h)) (by decide +kernel))
set_option maxRecDepth 20000 in
theorem gL_balance_X2_balance : GoodIn wsL_balance (wsV RL 55 RX2 yX2_balance wsX2_balance) := goodIn_app (goodIn_of _ (by decide +kernel)) ggL_balance_X2_balance
theorem dL_balance_0 : decode cL_balance 0 = .ok (.aload_n 3, 1) := by decide +kernel
theorem dL_balance_1 : decode cL_balance 1 = .ok (.iconst 0, 1) := by decide +kernel
theorem dL_balance_2 : decode cL_balance 2 = .ok (.aload_n 0, 1) := by decide +kernel
theorem dL_balance_3 : decode cL_balance 3 = .ok (.iload_n 1, 1) := by decide +kernel
theorem dL_balance_4 : decode cL_balance 4 = .ok (.iload_n 2, 1) := by decide +kernel
theorem dL_balance_5 : decode cL_balance 5 = .ok (.invokevirtual 55, 3) := by decide +kernel
theorem dL_balance_8 : decode cL_balance 8 = .ok (.i2l, 1) := by decide +kernel
theorem dL_balance_9 : decode cL_balance 9 = .ok (.lastore, 1) := by decide +kernel
theorem dL_balance_10 : decode cL_balance 10 = .ok (.goto 11, 3) := by decide +kernel
theorem dL_balance_13 : decode cL_balance 13 = .ok (.astore 4, 2) := by decide +kernel
theorem dL_balance_15 : decode cL_balance 15 = .ok (.iconst 1, 1) := by decide +kernel
theorem dL_balance_16 : decode cL_balance 16 = .ok (.ireturn, 1) := by decide +kernel
theorem dL_balance_17 : decode cL_balance 17 = .ok (.astore 4, 2) := by decide +kernel
theorem dL_balance_19 : decode cL_balance 19 = .ok (.iconst 2, 1) := by decide +kernel
theorem dL_balance_20 : decode cL_balance 20 = .ok (.ireturn, 1) := by decide +kernel
theorem dL_balance_21 : decode cL_balance 21 = .ok (.iconst 0, 1) := by decide +kernel
theorem dL_balance_22 : decode cL_balance 22 = .ok (.ireturn, 1) := by decide +kernel
set_option maxRecDepth 20000 in
theorem ggL_profit_X2_profit : GoodIn wsL_profit wsX2_profit := goodIn_ca (goodIn_ca (goodIn_r _ [7, 8, 9, 10, 11, 6, 12, 13, 14, 15, 16, 17, 18, 19, 20, 21, 22, 23, 24, 25, 26, 27, 28, 29, 30, 31, 32, 33, 34, 35, 36, 37, 38, 39, 40, 41, 42, 43, 44, 45, 46, 47, 48, 49, 50, 51, 52, 53, 54, 55, 56, 57, 58, 59, 60, 61, 62, 63, 64, 65, 66, 67, 68, 69, 70, 71, 72, 73, 74, 75, 76, 77, 78, 79, 80, 81, 82, 83, 84, 85, 86, 87, 88, 89, 90, 91, 92, 93, 94, 95, 96, 97, 98, 99, 100, 101, 102, 103, 104, 105, 106, 107, 108, 109, 110, 111, 112, 113, 114, 115, 116, 117, 118, 119, 120, 121, 122, 123, 124, 125, 126, 127, 128, 129, 130, 131, 132, 133, 134, 135, 136, 137, 138, 139, 140, 141, 142, 143, 144, 145, 146, 147, 148, 149, 150, 151] (by decide +kernel) (by decide +kernel)) (goodIn_sub (fun _ h => List.mem_cons_of_mem _ (List.mem_append_left _ (List.mem_append_right _ h))) (by decide +kernel))) (goodIn_sub (fun _ h => List.mem_cons_of_mem _ (List.mem_append_right _ h)) (by decide +kernel))
set_option maxRecDepth 20000 in
theorem gL_profit_X2_profit : GoodIn wsL_profit (wsV RL 58 RX2 yX2_profit wsX2_profit) := goodIn_app (goodIn_of _ (by decide +kernel)) ggL_profit_X2_profit
theorem dL_profit_0 : decode cL_profit 0 = .ok (.aload_n 3, 1) := by decide +kernel
theorem dL_profit_1 : decode cL_profit 1 = .ok (.iconst 0, 1) := by decide +kernel
theorem dL_profit_2 : decode cL_profit 2 = .ok (.aload_n 0, 1) := by decide +kernel
theorem dL_profit_3 : decode cL_profit 3 = .ok (.iload_n 1, 1) := by decide +kernel
theorem dL_profit_4 : decode cL_profit 4 = .ok (.iload_n 2, 1) := by decide +kernel
theorem dL_profit_5 : decode cL_profit 5 = .ok (.invokevirtual 58, 3) := by decide +kernel
theorem dL_profit_8 : decode cL_profit 8 = .ok (.i2l, 1) := by decide +kernel
theorem dL_profit_9 : decode cL_profit 9 = .ok (.lastore, 1) := by decide +kernel
theorem dL_profit_10 : decode cL_profit 10 = .ok (.goto 11, 3) := by decide +kernel
theorem dL_profit_13 : decode cL_profit 13 = .ok (.astore 4, 2) := by decide +kernel
theorem dL_profit_15 : decode cL_profit 15 = .ok (.iconst 1, 1) := by decide +kernel
theorem dL_profit_16 : decode cL_profit 16 = .ok (.ireturn, 1) := by decide +kernel
theorem dL_profit_17 : decode cL_profit 17 = .ok (.astore 4, 2) := by decide +kernel
theorem dL_profit_19 : decode cL_profit 19 = .ok (.iconst 2, 1) := by decide +kernel
theorem dL_profit_20 : decode cL_profit 20 = .ok (.ireturn, 1) := by decide +kernel
theorem dL_profit_21 : decode cL_profit 21 = .ok (.iconst 0, 1) := by decide +kernel
theorem dL_profit_22 : decode cL_profit 22 = .ok (.ireturn, 1) := by decide +kernel
set_option maxRecDepth 20000 in
theorem ggL_pool_X2_pool : GoodIn wsL_pool wsX2_pool := goodIn_ca (goodIn_r _ [6, 7, 8, 5, 9, 10, 11, 12, 13, 14, 15, 16, 17, 18, 19, 20, 21, 22, 23, 24, 25, 26, 27, 28, 29, 30, 31, 32, 33, 34, 35, 36, 37, 38, 39, 40, 41, 42, 43, 44, 45, 46, 47, 48, 49, 50, 51, 52, 53, 54, 55, 56, 57, 58, 59, 60, 61, 62, 63, 64, 65, 66, 67, 68, 69, 70, 71, 72, 73, 74, 75, 76, 77, 78, 79, 80, 81, 82, 83, 84, 85, 86, 87, 88, 89, 90, 91, 92, 93, 94, 95, 96, 97, 98, 99, 100, 101, 102, 103, 104, 105, 106, 107, 108, 109, 110, 111, 112, 113, 114, 115, 116, 117, 118, 119, 120, 121, 122, 123, 124, 125, 126, 127, 128, 129, 130, 131, 132, 133, 134, 135, 136, 137, 138, 139, 140, 141, 142, 143, 144, 145, 146, 147, 148, 149, 150, 151, 152, 153] (by decide +kernel) (by decide +kernel)) (goodIn_sub (fun _ h => List.mem_cons_of_mem _ (List.mem_append_right _ h)) (by decide +kernel))
set_option maxRecDepth 20000 in
theorem gL_pool_X2_pool : GoodIn wsL_pool (wsV RL 61 RX2 yX2_pool wsX2_pool) := goodIn_app (goodIn_of _ (by decide +kernel)) ggL_pool_X2_pool
theorem dL_pool_0 : decode cL_pool 0 = .ok (.aload_n 2, 1) := by decide +kernel
theorem dL_pool_1 : decode cL_pool 1 = .ok (.iconst 0, 1) := by decide +kernel
theorem dL_pool_2 : decode cL_pool 2 = .ok (.aload_n 0, 1) := by decide +kernel
theorem dL_pool_3 : decode cL_pool 3 = .ok (.iload_n 1, 1) := by decide +kernel
theorem dL_pool_4 : decode cL_pool 4 = .ok (.invokevirtual 61, 3) := by decide +kernel
theorem dL_pool_7 : decode cL_pool 7 = .ok (.i2l, 1) := by decide +kernel
theorem dL_pool_8 : decode cL_pool 8 = .ok (.lastore, 1) := by decide +kernel
theorem dL_pool_9 : decode cL_pool 9 = .ok (.goto 6, 3) := by decide +kernel
theorem dL_pool_12 : decode cL_pool 12 = .ok (.astore_n 3, 1) := by decide +kernel
theorem dL_pool_13 : decode cL_pool 13 = .ok (.iconst 1, 1) := by decide +kernel
theorem dL_pool_14 : decode cL_pool 14 = .ok (.ireturn, 1) := by decide +kernel
theorem dL_pool_15 : decode cL_pool 15 = .ok (.iconst 0, 1) := by decide +kernel
theorem dL_pool_16 : decode cL_pool 16 = .ok (.ireturn, 1) := by decide +kernel
set_option maxRecDepth 20000 in
theorem ggL_sum_X2_sum : GoodIn wsL_sum wsX2_sum := goodIn_ca (goodIn_r _ [6, 7, 8, 9, 10, 11, 5, 12, 13, 14, 15, 16, 17, 18, 19, 20, 21, 22, 23, 24, 25, 26, 27, 28, 29, 30, 31, 32, 33, 34, 35, 36, 37, 38, 39, 40, 41, 42, 43, 44, 45, 46, 47, 48, 49, 50, 51, 52, 53, 54, 55, 56, 57, 58, 59, 60, 61, 62, 63, 64, 65, 66, 67, 68, 69, 70, 71, 72, 73, 74, 75, 76, 77, 78, 79, 80, 81, 82, 83, 84, 85, 86, 87, 88, 89, 90, 91, 92, 93, 94, 95, 96, 97, 98, 99, 100, 101, 102, 103, 104, 105, 106, 107, 108, 109, 110, 111, 112, 113, 114, 115, 116, 117, 118, 119, 120, 121, 122, 123, 124, 125, 126, 127, 128, 129, 130, 131, 132, 133, 134, 135, 136, 137, 138, 139, 140, 141, 142, 143, 144, 145, 146, 147, 148, 149, 150, 151, 152, 153, 154, 155, 156, 157, 158, 159, 160, 161, 162, 163, 164] (by decide +kernel) (by decide +kernel)) (goodIn_sub (fun _ h => List.mem_cons_of_mem _ (List.mem_append_right _ h)) (by decide +kernel))
set_option maxRecDepth 20000 in
theorem gL_sum_X2_sum : GoodIn wsL_sum (wsV RL 64 RX2 yX2_sum wsX2_sum) := goodIn_app (goodIn_of _ (by decide +kernel)) ggL_sum_X2_sum
theorem dL_sum_0 : decode cL_sum 0 = .ok (.aload_n 2, 1) := by decide +kernel
theorem dL_sum_1 : decode cL_sum 1 = .ok (.iconst 0, 1) := by decide +kernel
theorem dL_sum_2 : decode cL_sum 2 = .ok (.aload_n 0, 1) := by decide +kernel
theorem dL_sum_3 : decode cL_sum 3 = .ok (.iload_n 1, 1) := by decide +kernel
theorem dL_sum_4 : decode cL_sum 4 = .ok (.invokevirtual 64, 3) := by decide +kernel
theorem dL_sum_7 : decode cL_sum 7 = .ok (.i2l, 1) := by decide +kernel
theorem dL_sum_8 : decode cL_sum 8 = .ok (.lastore, 1) := by decide +kernel
theorem dL_sum_9 : decode cL_sum 9 = .ok (.goto 6, 3) := by decide +kernel
theorem dL_sum_12 : decode cL_sum 12 = .ok (.astore_n 3, 1) := by decide +kernel
theorem dL_sum_13 : decode cL_sum 13 = .ok (.iconst 1, 1) := by decide +kernel
theorem dL_sum_14 : decode cL_sum 14 = .ok (.ireturn, 1) := by decide +kernel
theorem dL_sum_15 : decode cL_sum 15 = .ok (.iconst 0, 1) := by decide +kernel
theorem dL_sum_16 : decode cL_sum 16 = .ok (.ireturn, 1) := by decide +kernel
set_option maxRecDepth 20000 in
theorem ggL_paid_X2_paid : GoodIn wsL_paid wsX2_paid := goodIn_ca (goodIn_r _ [6, 7, 8, 9, 10, 11, 12, 5, 13, 14, 15, 16, 17, 18, 19, 20, 21, 22, 23, 24, 25, 26, 27, 28, 29, 30, 31, 32, 33, 34, 35, 36, 37, 38, 39, 40, 41, 42, 43, 44, 45, 46, 47, 48, 49, 50, 51, 52, 53] (by decide +kernel) (by decide +kernel)) (goodIn_sub (fun _ h => List.mem_cons_of_mem _ (List.mem_append_right _ h)) (by decide +kernel))
set_option maxRecDepth 20000 in
theorem gL_paid_X2_paid : GoodIn wsL_paid (wsV RL 67 RX2 yX2_paid wsX2_paid) := goodIn_app (goodIn_of _ (by decide +kernel)) ggL_paid_X2_paid
theorem dL_paid_0 : decode cL_paid 0 = .ok (.aload_n 2, 1) := by decide +kernel
theorem dL_paid_1 : decode cL_paid 1 = .ok (.iconst 0, 1) := by decide +kernel
theorem dL_paid_2 : decode cL_paid 2 = .ok (.aload_n 0, 1) := by decide +kernel
theorem dL_paid_3 : decode cL_paid 3 = .ok (.iload_n 1, 1) := by decide +kernel
theorem dL_paid_4 : decode cL_paid 4 = .ok (.invokevirtual 67, 3) := by decide +kernel
theorem dL_paid_7 : decode cL_paid 7 = .ok (.i2l, 1) := by decide +kernel
theorem dL_paid_8 : decode cL_paid 8 = .ok (.lastore, 1) := by decide +kernel
theorem dL_paid_9 : decode cL_paid 9 = .ok (.goto 6, 3) := by decide +kernel
theorem dL_paid_12 : decode cL_paid 12 = .ok (.astore_n 3, 1) := by decide +kernel
theorem dL_paid_13 : decode cL_paid 13 = .ok (.iconst 1, 1) := by decide +kernel
theorem dL_paid_14 : decode cL_paid 14 = .ok (.ireturn, 1) := by decide +kernel
theorem dL_paid_15 : decode cL_paid 15 = .ok (.iconst 0, 1) := by decide +kernel
theorem dL_paid_16 : decode cL_paid 16 = .ok (.ireturn, 1) := by decide +kernel
set_option maxRecDepth 20000 in
theorem ggL_owed_X2_owed : GoodIn wsL_owed wsX2_owed := goodIn_ca (goodIn_r _ [6, 7, 8, 9, 10, 11, 12, 5, 13, 14, 15, 16, 17, 18, 19, 20, 21, 22, 23, 24, 25, 26, 27, 28, 29, 30, 31, 32, 33, 34, 35, 36, 37, 38, 39, 40, 41, 42, 43, 44, 45, 46, 47, 48, 49, 50, 51, 52, 53, 54, 55, 56, 57, 58, 59, 60, 61, 62, 63, 64, 65, 66, 67, 68, 69, 70, 71, 72, 73, 74, 75, 76, 77, 78, 79, 80, 81, 82, 83, 84, 85, 86, 87, 88, 89, 90, 91, 92, 93, 94, 95, 96, 97, 98, 99, 100, 101, 102, 103, 104, 105, 106, 107, 108, 109, 110, 111, 112, 113, 114, 115, 116, 117, 118, 119, 120, 121, 122, 123, 124, 125, 126, 127, 128, 129, 130, 131, 132, 133, 134, 135, 136, 137, 138, 139, 140, 141, 142, 143, 144, 145, 146, 147, 148, 149, 150, 151, 152, 153, 154, 155, 156, 157, 158, 159, 160, 161, 162, 163, 164, 165] (by decide +kernel) (by decide +kernel)) (goodIn_sub (fun _ h => List.mem_cons_of_mem _ (List.mem_append_right _ h)) (by decide +kernel))
set_option maxRecDepth 20000 in
theorem gL_owed_X2_owed : GoodIn wsL_owed (wsV RL 70 RX2 yX2_owed wsX2_owed) := goodIn_app (goodIn_of _ (by decide +kernel)) ggL_owed_X2_owed
theorem dL_owed_0 : decode cL_owed 0 = .ok (.aload_n 2, 1) := by decide +kernel
theorem dL_owed_1 : decode cL_owed 1 = .ok (.iconst 0, 1) := by decide +kernel
theorem dL_owed_2 : decode cL_owed 2 = .ok (.aload_n 0, 1) := by decide +kernel
theorem dL_owed_3 : decode cL_owed 3 = .ok (.iload_n 1, 1) := by decide +kernel
theorem dL_owed_4 : decode cL_owed 4 = .ok (.invokevirtual 70, 3) := by decide +kernel
theorem dL_owed_7 : decode cL_owed 7 = .ok (.i2l, 1) := by decide +kernel
theorem dL_owed_8 : decode cL_owed 8 = .ok (.lastore, 1) := by decide +kernel
theorem dL_owed_9 : decode cL_owed 9 = .ok (.goto 6, 3) := by decide +kernel
theorem dL_owed_12 : decode cL_owed 12 = .ok (.astore_n 3, 1) := by decide +kernel
theorem dL_owed_13 : decode cL_owed 13 = .ok (.iconst 1, 1) := by decide +kernel
theorem dL_owed_14 : decode cL_owed 14 = .ok (.ireturn, 1) := by decide +kernel
theorem dL_owed_15 : decode cL_owed 15 = .ok (.iconst 0, 1) := by decide +kernel
theorem dL_owed_16 : decode cL_owed 16 = .ok (.ireturn, 1) := by decide +kernel
set_option maxRecDepth 20000 in
theorem ggL_law_X2_init : GoodIn wsL_law wsX2_init := goodIn_r _ [9, 10, 11, 12, 13, 14, 15, 16, 17, 18, 19, 20, 21, 22, 23, 24, 25, 26, 27, 28, 29, 30, 31, 32, 33, 6, 34, 35, 36, 37, 38, 39, 40, 41, 42, 43, 44, 45, 46, 47, 48, 49, 50, 51, 607, 608, 609, 610, 611, 612, 613, 614, 615, 616, 617, 618, 619, 620, 621, 583, 584, 585, 586, 587, 622, 623, 624] (by decide +kernel) (by decide +kernel)
set_option maxRecDepth 20000 in
theorem gL_law_X2_init : GoodIn wsL_law (wsX2_init) := ggL_law_X2_init
set_option maxRecDepth 20000 in
theorem ggL_law_X3_init : GoodIn wsL_law wsX3_init := goodIn_r _ [54, 55, 11, 12, 28, 56, 57, 58, 59, 60, 61, 62, 63, 64, 65, 66, 67, 6, 68, 69, 70, 588, 589, 590, 591, 592, 593, 594, 595, 596, 597, 598, 599, 600, 601, 602, 603, 604, 605, 606] (by decide +kernel) (by decide +kernel)
set_option maxRecDepth 20000 in
theorem gL_law_X3_init : GoodIn wsL_law (wsX3_init) := ggL_law_X3_init
set_option maxRecDepth 20000 in
theorem ggL_law_L_setRates : GoodIn wsL_law wsL_setRates := goodIn_ca (goodIn_ca (goodIn_r _ [74, 75, 76, 77, 78, 79, 2, 80, 81, 82, 83, 84, 85, 86, 87, 88, 89, 90, 91, 92, 93, 94, 95, 96, 97, 16, 17, 607, 608, 609, 610, 611, 612, 613, 614, 615, 616, 617, 618, 619, 620, 621, 583, 584, 585, 586, 587] (by decide +kernel) (by decide +kernel)) (goodIn_sub (fun _ h => List.mem_append_left _ (List.mem_append_left _ (List.mem_append_right _ h))) (by decide +kernel))) (goodIn_sub (fun _ h => List.mem_append_left _ (List.mem_append_right _ h)) (by decide +kernel))
set_option maxRecDepth 20000 in
theorem gL_law_L_setRates : GoodIn wsL_law (va_wsS RL 77 yL_setRates wsL_setRates) := goodIn_app (goodIn_of _ (by decide +kernel)) ggL_law_L_setRates
set_option maxRecDepth 20000 in
theorem ggL_law_X3_setRates : GoodIn wsL_law wsX3_setRates := goodIn_r _ [101, 102, 59, 60, 61, 103, 104, 5, 105, 106, 107, 108, 109, 110, 111, 112, 588, 589, 590, 591, 592, 593, 594, 595, 596, 597, 598, 599, 600, 601, 602, 603, 604, 605, 606] (by decide +kernel) (by decide +kernel)
set_option maxRecDepth 20000 in
theorem gL_law_X3_setRates : GoodIn wsL_law (wsV RL 82 RX3 yX3_setRates wsX3_setRates) := goodIn_app (goodIn_of _ (by decide +kernel)) ggL_law_X3_setRates
set_option maxRecDepth 20000 in
theorem ggL_law_X3_thrown : GoodIn wsL_law wsX3_thrown := goodIn_r _ [116, 102, 588, 589, 590, 591, 592, 593, 594, 595, 596, 597, 598, 599, 600, 601, 602, 603, 604, 605, 606] (by decide +kernel) (by decide +kernel)
