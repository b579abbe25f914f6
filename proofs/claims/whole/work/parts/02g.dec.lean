set_option maxRecDepth 20000 in
theorem ggX3_receive_X3_in : GoodIn wsX3_receive wsX3_in := goodIn_r _ [14] (by decide +kernel) (by decide +kernel)
set_option maxRecDepth 20000 in
theorem gX3_receive_X3_in : GoodIn wsX3_receive (va_wsS RX3 60 yX3_in wsX3_in) := goodIn_app (goodIn_of _ (by decide +kernel)) ggX3_receive_X3_in
set_option maxRecDepth 20000 in
theorem ggX3_receive_X3_at : GoodIn wsX3_receive wsX3_at := goodIn_r _ [21] (by decide +kernel) (by decide +kernel)
set_option maxRecDepth 20000 in
theorem gX3_receive_X3_at : GoodIn wsX3_receive (va_wsS RX3 88 yX3_at wsX3_at) := goodIn_app (goodIn_of _ (by decide +kernel)) ggX3_receive_X3_at
theorem dX3_receive_0 : decode cX3_receive 0 = .ok (.aload_n 0, 1) := by decide +kernel
theorem dX3_receive_1 : decode cX3_receive 1 = .ok (.iconst 0, 1) := by decide +kernel
theorem dX3_receive_2 : decode cX3_receive 2 = .ok (.putfield 56, 3) := by decide +kernel
theorem dX3_receive_5 : decode cX3_receive 5 = .ok (.iload_n 1, 1) := by decide +kernel
theorem dX3_receive_6 : decode cX3_receive 6 = .ok (.iload_n 2, 1) := by decide +kernel
theorem dX3_receive_7 : decode cX3_receive 7 = .ok (.invokestatic 72, 3) := by decide +kernel
theorem dX3_receive_10 : decode cX3_receive 10 = .ok (.ifCond .ne 9, 3) := by decide +kernel
theorem dX3_receive_13 : decode cX3_receive 13 = .ok (.aload_n 0, 1) := by decide +kernel
theorem dX3_receive_14 : decode cX3_receive 14 = .ok (.iconst 1, 1) := by decide +kernel
theorem dX3_receive_15 : decode cX3_receive 15 = .ok (.invokevirtual 68, 3) := by decide +kernel
theorem dX3_receive_18 : decode cX3_receive 18 = .ok (.ireturn, 1) := by decide +kernel
theorem dX3_receive_19 : decode cX3_receive 19 = .ok (.iload_n 3, 1) := by decide +kernel
theorem dX3_receive_20 : decode cX3_receive 20 = .ok (.iconst 1, 1) := by decide +kernel
theorem dX3_receive_21 : decode cX3_receive 21 = .ok (.ldc 84, 2) := by decide +kernel
theorem dX3_receive_23 : decode cX3_receive 23 = .ok (.invokestatic 60, 3) := by decide +kernel
theorem dX3_receive_26 : decode cX3_receive 26 = .ok (.ifCond .ne 9, 3) := by decide +kernel
theorem dX3_receive_29 : decode cX3_receive 29 = .ok (.aload_n 0, 1) := by decide +kernel
theorem dX3_receive_30 : decode cX3_receive 30 = .ok (.iconst 2, 1) := by decide +kernel
theorem dX3_receive_31 : decode cX3_receive 31 = .ok (.invokevirtual 68, 3) := by decide +kernel
theorem dX3_receive_34 : decode cX3_receive 34 = .ok (.ireturn, 1) := by decide +kernel
theorem dX3_receive_35 : decode cX3_receive 35 = .ok (.aload_n 0, 1) := by decide +kernel
theorem dX3_receive_36 : decode cX3_receive 36 = .ok (.getfield 7, 3) := by decide +kernel
theorem dX3_receive_39 : decode cX3_receive 39 = .ok (.iload_n 1, 1) := by decide +kernel
theorem dX3_receive_40 : decode cX3_receive 40 = .ok (.aload_n 0, 1) := by decide +kernel
theorem dX3_receive_41 : decode cX3_receive 41 = .ok (.getfield 85, 3) := by decide +kernel
theorem dX3_receive_44 : decode cX3_receive 44 = .ok (.iload_n 2, 1) := by decide +kernel
theorem dX3_receive_45 : decode cX3_receive 45 = .ok (.invokestatic 88, 3) := by decide +kernel
theorem dX3_receive_48 : decode cX3_receive 48 = .ok (.dup2, 1) := by decide +kernel
theorem dX3_receive_49 : decode cX3_receive 49 = .ok (.iaload, 1) := by decide +kernel
theorem dX3_receive_50 : decode cX3_receive 50 = .ok (.iload_n 3, 1) := by decide +kernel
theorem dX3_receive_51 : decode cX3_receive 51 = .ok (.iadd, 1) := by decide +kernel
theorem dX3_receive_52 : decode cX3_receive 52 = .ok (.iastore, 1) := by decide +kernel
theorem dX3_receive_53 : decode cX3_receive 53 = .ok (.aload_n 0, 1) := by decide +kernel
theorem dX3_receive_54 : decode cX3_receive 54 = .ok (.getfield 7, 3) := by decide +kernel
theorem dX3_receive_57 : decode cX3_receive 57 = .ok (.iload_n 1, 1) := by decide +kernel
theorem dX3_receive_58 : decode cX3_receive 58 = .ok (.aload_n 0, 1) := by decide +kernel
theorem dX3_receive_59 : decode cX3_receive 59 = .ok (.getfield 85, 3) := by decide +kernel
theorem dX3_receive_62 : decode cX3_receive 62 = .ok (.iload_n 2, 1) := by decide +kernel
theorem dX3_receive_63 : decode cX3_receive 63 = .ok (.invokestatic 88, 3) := by decide +kernel
theorem dX3_receive_66 : decode cX3_receive 66 = .ok (.iaload, 1) := by decide +kernel
theorem dX3_receive_67 : decode cX3_receive 67 = .ok (.ireturn, 1) := by decide +kernel
set_option maxRecDepth 20000 in
theorem ggX3_spend_X3_isPicture : GoodIn wsX3_spend wsX3_isPicture := goodIn_r _ [8, 9, 10, 7, 11] (by decide +kernel) (by decide +kernel)
set_option maxRecDepth 20000 in
theorem gX3_spend_X3_isPicture : GoodIn wsX3_spend (va_wsS RX3 64 yX3_isPicture wsX3_isPicture) := goodIn_app (goodIn_of _ (by decide +kernel)) ggX3_spend_X3_isPicture
set_option maxRecDepth 20000 in
theorem ggX3_spend_X3_fails : GoodIn wsX3_spend wsX3_fails := goodIn_r _ [15, 1, 16, 17, 18, 19, 20, 21, 22, 23, 24, 25, 26, 27, 28, 29, 30, 31, 32, 33, 34] (by decide +kernel) (by decide +kernel)
set_option maxRecDepth 20000 in
theorem gX3_spend_X3_fails : GoodIn wsX3_spend (wsV RX3 68 RX3 yX3_fails wsX3_fails) := goodIn_app (goodIn_of _ (by decide +kernel)) ggX3_spend_X3_fails
set_option maxRecDepth 20000 in
theorem ggX3_spend_X3_in : GoodIn wsX3_spend wsX3_in := goodIn_r _ [11] (by decide +kernel) (by decide +kernel)
set_option maxRecDepth 20000 in
theorem gX3_spend_X3_in : GoodIn wsX3_spend (va_wsS RX3 60 yX3_in wsX3_in) := goodIn_app (goodIn_of _ (by decide +kernel)) ggX3_spend_X3_in
theorem dX3_spend_0 : decode cX3_spend 0 = .ok (.aload_n 0, 1) := by decide +kernel
theorem dX3_spend_1 : decode cX3_spend 1 = .ok (.iconst 0, 1) := by decide +kernel
theorem dX3_spend_2 : decode cX3_spend 2 = .ok (.putfield 56, 3) := by decide +kernel
theorem dX3_spend_5 : decode cX3_spend 5 = .ok (.iload_n 1, 1) := by decide +kernel
theorem dX3_spend_6 : decode cX3_spend 6 = .ok (.invokestatic 64, 3) := by decide +kernel
theorem dX3_spend_9 : decode cX3_spend 9 = .ok (.ifCond .ne 9, 3) := by decide +kernel
theorem dX3_spend_12 : decode cX3_spend 12 = .ok (.aload_n 0, 1) := by decide +kernel
theorem dX3_spend_13 : decode cX3_spend 13 = .ok (.iconst 1, 1) := by decide +kernel
theorem dX3_spend_14 : decode cX3_spend 14 = .ok (.invokevirtual 68, 3) := by decide +kernel
theorem dX3_spend_17 : decode cX3_spend 17 = .ok (.ireturn, 1) := by decide +kernel
theorem dX3_spend_18 : decode cX3_spend 18 = .ok (.iload_n 2, 1) := by decide +kernel
theorem dX3_spend_19 : decode cX3_spend 19 = .ok (.iconst 1, 1) := by decide +kernel
theorem dX3_spend_20 : decode cX3_spend 20 = .ok (.ldc 84, 2) := by decide +kernel
theorem dX3_spend_22 : decode cX3_spend 22 = .ok (.invokestatic 60, 3) := by decide +kernel
theorem dX3_spend_25 : decode cX3_spend 25 = .ok (.ifCond .ne 9, 3) := by decide +kernel
theorem dX3_spend_28 : decode cX3_spend 28 = .ok (.aload_n 0, 1) := by decide +kernel
theorem dX3_spend_29 : decode cX3_spend 29 = .ok (.iconst 2, 1) := by decide +kernel
theorem dX3_spend_30 : decode cX3_spend 30 = .ok (.invokevirtual 68, 3) := by decide +kernel
theorem dX3_spend_33 : decode cX3_spend 33 = .ok (.ireturn, 1) := by decide +kernel
theorem dX3_spend_34 : decode cX3_spend 34 = .ok (.aload_n 0, 1) := by decide +kernel
theorem dX3_spend_35 : decode cX3_spend 35 = .ok (.getfield 13, 3) := by decide +kernel
theorem dX3_spend_38 : decode cX3_spend 38 = .ok (.bipush 10, 2) := by decide +kernel
theorem dX3_spend_40 : decode cX3_spend 40 = .ok (.iload_n 1, 1) := by decide +kernel
theorem dX3_spend_41 : decode cX3_spend 41 = .ok (.imul, 1) := by decide +kernel
theorem dX3_spend_42 : decode cX3_spend 42 = .ok (.aload_n 0, 1) := by decide +kernel
theorem dX3_spend_43 : decode cX3_spend 43 = .ok (.getfield 85, 3) := by decide +kernel
theorem dX3_spend_46 : decode cX3_spend 46 = .ok (.iadd, 1) := by decide +kernel
theorem dX3_spend_47 : decode cX3_spend 47 = .ok (.dup2, 1) := by decide +kernel
theorem dX3_spend_48 : decode cX3_spend 48 = .ok (.iaload, 1) := by decide +kernel
theorem dX3_spend_49 : decode cX3_spend 49 = .ok (.iload_n 2, 1) := by decide +kernel
theorem dX3_spend_50 : decode cX3_spend 50 = .ok (.iadd, 1) := by decide +kernel
theorem dX3_spend_51 : decode cX3_spend 51 = .ok (.iastore, 1) := by decide +kernel
theorem dX3_spend_52 : decode cX3_spend 52 = .ok (.aload_n 0, 1) := by decide +kernel
theorem dX3_spend_53 : decode cX3_spend 53 = .ok (.getfield 13, 3) := by decide +kernel
theorem dX3_spend_56 : decode cX3_spend 56 = .ok (.bipush 10, 2) := by decide +kernel
theorem dX3_spend_58 : decode cX3_spend 58 = .ok (.iload_n 1, 1) := by decide +kernel
theorem dX3_spend_59 : decode cX3_spend 59 = .ok (.imul, 1) := by decide +kernel
theorem dX3_spend_60 : decode cX3_spend 60 = .ok (.aload_n 0, 1) := by decide +kernel
theorem dX3_spend_61 : decode cX3_spend 61 = .ok (.getfield 85, 3) := by decide +kernel
theorem dX3_spend_64 : decode cX3_spend 64 = .ok (.iadd, 1) := by decide +kernel
theorem dX3_spend_65 : decode cX3_spend 65 = .ok (.iaload, 1) := by decide +kernel
theorem dX3_spend_66 : decode cX3_spend 66 = .ok (.ireturn, 1) := by decide +kernel
set_option maxRecDepth 20000 in
theorem ggX3_audit_X3_isWindow : GoodIn wsX3_audit wsX3_isWindow := goodIn_r _ [8, 9, 10, 7, 11, 12, 13, 14] (by decide +kernel) (by decide +kernel)
set_option maxRecDepth 20000 in
theorem gX3_audit_X3_isWindow : GoodIn wsX3_audit (va_wsS RX3 72 yX3_isWindow wsX3_isWindow) := goodIn_app (goodIn_of _ (by decide +kernel)) ggX3_audit_X3_isWindow
set_option maxRecDepth 20000 in
theorem ggX3_audit_X3_fails : GoodIn wsX3_audit wsX3_fails := goodIn_r _ [18, 1, 22, 23, 24, 25, 26, 27, 28, 29, 30, 31, 32, 33, 34, 35, 36, 37, 38, 39, 40] (by decide +kernel) (by decide +kernel)
set_option maxRecDepth 20000 in
theorem gX3_audit_X3_fails : GoodIn wsX3_audit (wsV RX3 68 RX3 yX3_fails wsX3_fails) := goodIn_app (goodIn_of _ (by decide +kernel)) ggX3_audit_X3_fails
set_option maxRecDepth 20000 in
theorem ggX3_audit_X3_in : GoodIn wsX3_audit wsX3_in := goodIn_r _ [14] (by decide +kernel) (by decide +kernel)
set_option maxRecDepth 20000 in
theorem gX3_audit_X3_in : GoodIn wsX3_audit (va_wsS RX3 60 yX3_in wsX3_in) := goodIn_app (goodIn_of _ (by decide +kernel)) ggX3_audit_X3_in
set_option maxRecDepth 20000 in
theorem ggX3_audit_X3_at : GoodIn wsX3_audit wsX3_at := goodIn_r _ [21] (by decide +kernel) (by decide +kernel)
set_option maxRecDepth 20000 in
theorem gX3_audit_X3_at : GoodIn wsX3_audit (va_wsS RX3 88 yX3_at wsX3_at) := goodIn_app (goodIn_of _ (by decide +kernel)) ggX3_audit_X3_at
theorem dX3_audit_0 : decode cX3_audit 0 = .ok (.aload_n 0, 1) := by decide +kernel
theorem dX3_audit_1 : decode cX3_audit 1 = .ok (.iconst 0, 1) := by decide +kernel
theorem dX3_audit_2 : decode cX3_audit 2 = .ok (.putfield 56, 3) := by decide +kernel
theorem dX3_audit_5 : decode cX3_audit 5 = .ok (.iload_n 1, 1) := by decide +kernel
theorem dX3_audit_6 : decode cX3_audit 6 = .ok (.iload_n 3, 1) := by decide +kernel
theorem dX3_audit_7 : decode cX3_audit 7 = .ok (.invokestatic 72, 3) := by decide +kernel
theorem dX3_audit_10 : decode cX3_audit 10 = .ok (.ifCond .ne 9, 3) := by decide +kernel
theorem dX3_audit_13 : decode cX3_audit 13 = .ok (.aload_n 0, 1) := by decide +kernel
theorem dX3_audit_14 : decode cX3_audit 14 = .ok (.iconst 1, 1) := by decide +kernel
theorem dX3_audit_15 : decode cX3_audit 15 = .ok (.invokevirtual 68, 3) := by decide +kernel
theorem dX3_audit_18 : decode cX3_audit 18 = .ok (.ireturn, 1) := by decide +kernel
theorem dX3_audit_19 : decode cX3_audit 19 = .ok (.iload 4, 2) := by decide +kernel
theorem dX3_audit_21 : decode cX3_audit 21 = .ok (.iconst 0, 1) := by decide +kernel
theorem dX3_audit_22 : decode cX3_audit 22 = .ok (.ldc 92, 2) := by decide +kernel
theorem dX3_audit_24 : decode cX3_audit 24 = .ok (.invokestatic 60, 3) := by decide +kernel
theorem dX3_audit_27 : decode cX3_audit 27 = .ok (.ifCond .ne 9, 3) := by decide +kernel
theorem dX3_audit_30 : decode cX3_audit 30 = .ok (.aload_n 0, 1) := by decide +kernel
theorem dX3_audit_31 : decode cX3_audit 31 = .ok (.iconst 2, 1) := by decide +kernel
theorem dX3_audit_32 : decode cX3_audit 32 = .ok (.invokevirtual 68, 3) := by decide +kernel
theorem dX3_audit_35 : decode cX3_audit 35 = .ok (.ireturn, 1) := by decide +kernel
theorem dX3_audit_36 : decode cX3_audit 36 = .ok (.iload_n 2, 1) := by decide +kernel
theorem dX3_audit_37 : decode cX3_audit 37 = .ok (.ifCond .lt 21, 3) := by decide +kernel
theorem dX3_audit_40 : decode cX3_audit 40 = .ok (.iload_n 2, 1) := by decide +kernel
theorem dX3_audit_41 : decode cX3_audit 41 = .ok (.aload_n 0, 1) := by decide +kernel
theorem dX3_audit_42 : decode cX3_audit 42 = .ok (.getfield 85, 3) := by decide +kernel
theorem dX3_audit_45 : decode cX3_audit 45 = .ok (.if_icmp .ge 13, 3) := by decide +kernel
theorem dX3_audit_48 : decode cX3_audit 48 = .ok (.aload_n 0, 1) := by decide +kernel
theorem dX3_audit_49 : decode cX3_audit 49 = .ok (.getfield 85, 3) := by decide +kernel
theorem dX3_audit_52 : decode cX3_audit 52 = .ok (.iload_n 2, 1) := by decide +kernel
theorem dX3_audit_53 : decode cX3_audit 53 = .ok (.isub, 1) := by decide +kernel
theorem dX3_audit_54 : decode cX3_audit 54 = .ok (.iconst 3, 1) := by decide +kernel
theorem dX3_audit_55 : decode cX3_audit 55 = .ok (.if_icmp .le 9, 3) := by decide +kernel
theorem dX3_audit_58 : decode cX3_audit 58 = .ok (.aload_n 0, 1) := by decide +kernel
theorem dX3_audit_59 : decode cX3_audit 59 = .ok (.iconst 3, 1) := by decide +kernel
theorem dX3_audit_60 : decode cX3_audit 60 = .ok (.invokevirtual 68, 3) := by decide +kernel
theorem dX3_audit_63 : decode cX3_audit 63 = .ok (.ireturn, 1) := by decide +kernel
theorem dX3_audit_64 : decode cX3_audit 64 = .ok (.aload_n 0, 1) := by decide +kernel
theorem dX3_audit_65 : decode cX3_audit 65 = .ok (.getfield 7, 3) := by decide +kernel
theorem dX3_audit_68 : decode cX3_audit 68 = .ok (.iload_n 1, 1) := by decide +kernel
theorem dX3_audit_69 : decode cX3_audit 69 = .ok (.iload_n 2, 1) := by decide +kernel
theorem dX3_audit_70 : decode cX3_audit 70 = .ok (.iload_n 3, 1) := by decide +kernel
theorem dX3_audit_71 : decode cX3_audit 71 = .ok (.invokestatic 88, 3) := by decide +kernel
theorem dX3_audit_74 : decode cX3_audit 74 = .ok (.iaload, 1) := by decide +kernel
theorem dX3_audit_75 : decode cX3_audit 75 = .ok (.istore 5, 2) := by decide +kernel
theorem dX3_audit_77 : decode cX3_audit 77 = .ok (.aload_n 0, 1) := by decide +kernel
theorem dX3_audit_78 : decode cX3_audit 78 = .ok (.getfield 7, 3) := by decide +kernel
theorem dX3_audit_81 : decode cX3_audit 81 = .ok (.iload_n 1, 1) := by decide +kernel
theorem dX3_audit_82 : decode cX3_audit 82 = .ok (.iload_n 2, 1) := by decide +kernel
theorem dX3_audit_83 : decode cX3_audit 83 = .ok (.iload_n 3, 1) := by decide +kernel
theorem dX3_audit_84 : decode cX3_audit 84 = .ok (.invokestatic 88, 3) := by decide +kernel
theorem dX3_audit_87 : decode cX3_audit 87 = .ok (.iload 4, 2) := by decide +kernel
theorem dX3_audit_89 : decode cX3_audit 89 = .ok (.iastore, 1) := by decide +kernel
theorem dX3_audit_90 : decode cX3_audit 90 = .ok (.iload 5, 2) := by decide +kernel
theorem dX3_audit_92 : decode cX3_audit 92 = .ok (.ireturn, 1) := by decide +kernel
set_option maxRecDepth 20000 in
theorem ggX3_closeYear_X3_fails : GoodIn wsX3_closeYear wsX3_fails := goodIn_r _ [7, 1, 8, 9, 10, 11, 12, 13, 14, 15, 16, 17, 18, 19, 20, 21, 22, 23, 24, 25, 26] (by decide +kernel) (by decide +kernel)
set_option maxRecDepth 20000 in
theorem gX3_closeYear_X3_fails : GoodIn wsX3_closeYear (wsV RX3 68 RX3 yX3_fails wsX3_fails) := goodIn_app (goodIn_of _ (by decide +kernel)) ggX3_closeYear_X3_fails
theorem dX3_closeYear_0 : decode cX3_closeYear 0 = .ok (.aload_n 0, 1) := by decide +kernel
theorem dX3_closeYear_1 : decode cX3_closeYear 1 = .ok (.iconst 0, 1) := by decide +kernel
theorem dX3_closeYear_2 : decode cX3_closeYear 2 = .ok (.putfield 56, 3) := by decide +kernel
theorem dX3_closeYear_5 : decode cX3_closeYear 5 = .ok (.aload_n 0, 1) := by decide +kernel
theorem dX3_closeYear_6 : decode cX3_closeYear 6 = .ok (.getfield 85, 3) := by decide +kernel
theorem dX3_closeYear_9 : decode cX3_closeYear 9 = .ok (.bipush 9, 2) := by decide +kernel
theorem dX3_closeYear_11 : decode cX3_closeYear 11 = .ok (.if_icmp .ne 9, 3) := by decide +kernel
theorem dX3_closeYear_14 : decode cX3_closeYear 14 = .ok (.aload_n 0, 1) := by decide +kernel
theorem dX3_closeYear_15 : decode cX3_closeYear 15 = .ok (.iconst 1, 1) := by decide +kernel
theorem dX3_closeYear_16 : decode cX3_closeYear 16 = .ok (.invokevirtual 68, 3) := by decide +kernel
theorem dX3_closeYear_19 : decode cX3_closeYear 19 = .ok (.ireturn, 1) := by decide +kernel
theorem dX3_closeYear_20 : decode cX3_closeYear 20 = .ok (.aload_n 0, 1) := by decide +kernel
theorem dX3_closeYear_21 : decode cX3_closeYear 21 = .ok (.dup, 1) := by decide +kernel
theorem dX3_closeYear_22 : decode cX3_closeYear 22 = .ok (.getfield 85, 3) := by decide +kernel
theorem dX3_closeYear_25 : decode cX3_closeYear 25 = .ok (.iconst 1, 1) := by decide +kernel
theorem dX3_closeYear_26 : decode cX3_closeYear 26 = .ok (.iadd, 1) := by decide +kernel
theorem dX3_closeYear_27 : decode cX3_closeYear 27 = .ok (.putfield 85, 3) := by decide +kernel
theorem dX3_closeYear_30 : decode cX3_closeYear 30 = .ok (.aload_n 0, 1) := by decide +kernel
theorem dX3_closeYear_31 : decode cX3_closeYear 31 = .ok (.getfield 85, 3) := by decide +kernel
theorem dX3_closeYear_34 : decode cX3_closeYear 34 = .ok (.ireturn, 1) := by decide +kernel
set_option maxRecDepth 20000 in
theorem ggX3_grossOf_X3_at : GoodIn wsX3_grossOf wsX3_at := goodIn_r _ [5] (by decide +kernel) (by decide +kernel)
set_option maxRecDepth 20000 in
theorem gX3_grossOf_X3_at : GoodIn wsX3_grossOf (va_wsS RX3 88 yX3_at wsX3_at) := goodIn_app (goodIn_of _ (by decide +kernel)) ggX3_grossOf_X3_at
theorem dX3_grossOf_0 : decode cX3_grossOf 0 = .ok (.lconst 0, 1) := by decide +kernel
theorem dX3_grossOf_1 : decode cX3_grossOf 1 = .ok (.lstore_n 3, 1) := by decide +kernel
theorem dX3_grossOf_2 : decode cX3_grossOf 2 = .ok (.iconst 0, 1) := by decide +kernel
theorem dX3_grossOf_3 : decode cX3_grossOf 3 = .ok (.istore 5, 2) := by decide +kernel
theorem dX3_grossOf_5 : decode cX3_grossOf 5 = .ok (.iload 5, 2) := by decide +kernel
theorem dX3_grossOf_7 : decode cX3_grossOf 7 = .ok (.iconst 4, 1) := by decide +kernel
theorem dX3_grossOf_8 : decode cX3_grossOf 8 = .ok (.if_icmp .ge 25, 3) := by decide +kernel
theorem dX3_grossOf_11 : decode cX3_grossOf 11 = .ok (.lload_n 3, 1) := by decide +kernel
theorem dX3_grossOf_12 : decode cX3_grossOf 12 = .ok (.aload_n 0, 1) := by decide +kernel
theorem dX3_grossOf_13 : decode cX3_grossOf 13 = .ok (.getfield 7, 3) := by decide +kernel
theorem dX3_grossOf_16 : decode cX3_grossOf 16 = .ok (.iload_n 1, 1) := by decide +kernel
theorem dX3_grossOf_17 : decode cX3_grossOf 17 = .ok (.iload_n 2, 1) := by decide +kernel
theorem dX3_grossOf_18 : decode cX3_grossOf 18 = .ok (.iload 5, 2) := by decide +kernel
theorem dX3_grossOf_20 : decode cX3_grossOf 20 = .ok (.invokestatic 88, 3) := by decide +kernel
theorem dX3_grossOf_23 : decode cX3_grossOf 23 = .ok (.iaload, 1) := by decide +kernel
theorem dX3_grossOf_24 : decode cX3_grossOf 24 = .ok (.i2l, 1) := by decide +kernel
theorem dX3_grossOf_25 : decode cX3_grossOf 25 = .ok (.ladd, 1) := by decide +kernel
theorem dX3_grossOf_26 : decode cX3_grossOf 26 = .ok (.lstore_n 3, 1) := by decide +kernel
theorem dX3_grossOf_27 : decode cX3_grossOf 27 = .ok (.iinc 5 1, 3) := by decide +kernel
theorem dX3_grossOf_30 : decode cX3_grossOf 30 = .ok (.goto (-25), 3) := by decide +kernel
theorem dX3_grossOf_33 : decode cX3_grossOf 33 = .ok (.lload_n 3, 1) := by decide +kernel
theorem dX3_grossOf_34 : decode cX3_grossOf 34 = .ok (.lreturn, 1) := by decide +kernel
set_option maxRecDepth 20000 in
theorem ggX3_adjustedOf_X3_grossOf : GoodIn wsX3_adjustedOf wsX3_grossOf := goodIn_r _ [7, 8, 9, 10, 6, 11, 12, 13, 14, 15, 16, 17, 18, 19, 20, 21, 22, 23, 24, 25, 26, 27, 28, 29, 30] (by decide +kernel) (by decide +kernel)
set_option maxRecDepth 20000 in
theorem gX3_adjustedOf_X3_grossOf : GoodIn wsX3_adjustedOf (wsV RX3 93 RX3 yX3_grossOf wsX3_grossOf) := goodIn_app (goodIn_of _ (by decide +kernel)) ggX3_adjustedOf_X3_grossOf
theorem dX3_adjustedOf_0 : decode cX3_adjustedOf 0 = .ok (.aload_n 0, 1) := by decide +kernel
theorem dX3_adjustedOf_1 : decode cX3_adjustedOf 1 = .ok (.iload_n 1, 1) := by decide +kernel
theorem dX3_adjustedOf_2 : decode cX3_adjustedOf 2 = .ok (.iload_n 2, 1) := by decide +kernel
theorem dX3_adjustedOf_3 : decode cX3_adjustedOf 3 = .ok (.invokevirtual 93, 3) := by decide +kernel
theorem dX3_adjustedOf_6 : decode cX3_adjustedOf 6 = .ok (.lstore_n 3, 1) := by decide +kernel
theorem dX3_adjustedOf_7 : decode cX3_adjustedOf 7 = .ok (.lload_n 3, 1) := by decide +kernel
theorem dX3_adjustedOf_8 : decode cX3_adjustedOf 8 = .ok (.lload_n 3, 1) := by decide +kernel
theorem dX3_adjustedOf_9 : decode cX3_adjustedOf 9 = .ok (.aload_n 0, 1) := by decide +kernel
theorem dX3_adjustedOf_10 : decode cX3_adjustedOf 10 = .ok (.getfield 19, 3) := by decide +kernel
theorem dX3_adjustedOf_13 : decode cX3_adjustedOf 13 = .ok (.iload_n 1, 1) := by decide +kernel
theorem dX3_adjustedOf_14 : decode cX3_adjustedOf 14 = .ok (.iaload, 1) := by decide +kernel
theorem dX3_adjustedOf_15 : decode cX3_adjustedOf 15 = .ok (.i2l, 1) := by decide +kernel
theorem dX3_adjustedOf_16 : decode cX3_adjustedOf 16 = .ok (.lmul, 1) := by decide +kernel
theorem dX3_adjustedOf_17 : decode cX3_adjustedOf 17 = .ok (.ldc2_w 97, 3) := by decide +kernel
theorem dX3_adjustedOf_20 : decode cX3_adjustedOf 20 = .ok (.ldiv, 1) := by decide +kernel
theorem dX3_adjustedOf_21 : decode cX3_adjustedOf 21 = .ok (.lsub, 1) := by decide +kernel
theorem dX3_adjustedOf_22 : decode cX3_adjustedOf 22 = .ok (.lreturn, 1) := by decide +kernel
set_option maxRecDepth 20000 in
theorem ggX3_feesOf_X3_at : GoodIn wsX3_feesOf wsX3_at := goodIn_r _ [7] (by decide +kernel) (by decide +kernel)
set_option maxRecDepth 20000 in
theorem gX3_feesOf_X3_at : GoodIn wsX3_feesOf (va_wsS RX3 88 yX3_at wsX3_at) := goodIn_app (goodIn_of _ (by decide +kernel)) ggX3_feesOf_X3_at
theorem dX3_feesOf_0 : decode cX3_feesOf 0 = .ok (.lconst 0, 1) := by decide +kernel
theorem dX3_feesOf_1 : decode cX3_feesOf 1 = .ok (.lstore_n 3, 1) := by decide +kernel
theorem dX3_feesOf_2 : decode cX3_feesOf 2 = .ok (.iconst 0, 1) := by decide +kernel
theorem dX3_feesOf_3 : decode cX3_feesOf 3 = .ok (.istore 5, 2) := by decide +kernel
theorem dX3_feesOf_5 : decode cX3_feesOf 5 = .ok (.iload 5, 2) := by decide +kernel
theorem dX3_feesOf_7 : decode cX3_feesOf 7 = .ok (.iconst 4, 1) := by decide +kernel
theorem dX3_feesOf_8 : decode cX3_feesOf 8 = .ok (.if_icmp .ge 42, 3) := by decide +kernel
theorem dX3_feesOf_11 : decode cX3_feesOf 11 = .ok (.lload_n 3, 1) := by decide +kernel
theorem dX3_feesOf_12 : decode cX3_feesOf 12 = .ok (.aload_n 0, 1) := by decide +kernel
theorem dX3_feesOf_13 : decode cX3_feesOf 13 = .ok (.getfield 7, 3) := by decide +kernel
theorem dX3_feesOf_16 : decode cX3_feesOf 16 = .ok (.iload_n 1, 1) := by decide +kernel
theorem dX3_feesOf_17 : decode cX3_feesOf 17 = .ok (.iload_n 2, 1) := by decide +kernel
theorem dX3_feesOf_18 : decode cX3_feesOf 18 = .ok (.iload 5, 2) := by decide +kernel
theorem dX3_feesOf_20 : decode cX3_feesOf 20 = .ok (.invokestatic 88, 3) := by decide +kernel
theorem dX3_feesOf_23 : decode cX3_feesOf 23 = .ok (.iaload, 1) := by decide +kernel
theorem dX3_feesOf_24 : decode cX3_feesOf 24 = .ok (.i2l, 1) := by decide +kernel
theorem dX3_feesOf_25 : decode cX3_feesOf 25 = .ok (.aload_n 0, 1) := by decide +kernel
theorem dX3_feesOf_26 : decode cX3_feesOf 26 = .ok (.getfield 16, 3) := by decide +kernel
theorem dX3_feesOf_29 : decode cX3_feesOf 29 = .ok (.iconst 4, 1) := by decide +kernel
theorem dX3_feesOf_30 : decode cX3_feesOf 30 = .ok (.iload_n 1, 1) := by decide +kernel
theorem dX3_feesOf_31 : decode cX3_feesOf 31 = .ok (.imul, 1) := by decide +kernel
theorem dX3_feesOf_32 : decode cX3_feesOf 32 = .ok (.iload 5, 2) := by decide +kernel
theorem dX3_feesOf_34 : decode cX3_feesOf 34 = .ok (.iadd, 1) := by decide +kernel
theorem dX3_feesOf_35 : decode cX3_feesOf 35 = .ok (.iaload, 1) := by decide +kernel
theorem dX3_feesOf_36 : decode cX3_feesOf 36 = .ok (.i2l, 1) := by decide +kernel
theorem dX3_feesOf_37 : decode cX3_feesOf 37 = .ok (.lmul, 1) := by decide +kernel
theorem dX3_feesOf_38 : decode cX3_feesOf 38 = .ok (.ldc2_w 97, 3) := by decide +kernel
theorem dX3_feesOf_41 : decode cX3_feesOf 41 = .ok (.ldiv, 1) := by decide +kernel
theorem dX3_feesOf_42 : decode cX3_feesOf 42 = .ok (.ladd, 1) := by decide +kernel
theorem dX3_feesOf_43 : decode cX3_feesOf 43 = .ok (.lstore_n 3, 1) := by decide +kernel
theorem dX3_feesOf_44 : decode cX3_feesOf 44 = .ok (.iinc 5 1, 3) := by decide +kernel
theorem dX3_feesOf_47 : decode cX3_feesOf 47 = .ok (.goto (-42), 3) := by decide +kernel
theorem dX3_feesOf_50 : decode cX3_feesOf 50 = .ok (.lload_n 3, 1) := by decide +kernel
theorem dX3_feesOf_51 : decode cX3_feesOf 51 = .ok (.lreturn, 1) := by decide +kernel
theorem dX3_parted_0 : decode cX3_parted 0 = .ok (.lload_n 1, 1) := by decide +kernel
theorem dX3_parted_1 : decode cX3_parted 1 = .ok (.aload_n 0, 1) := by decide +kernel
theorem dX3_parted_2 : decode cX3_parted 2 = .ok (.getfield 34, 3) := by decide +kernel
theorem dX3_parted_5 : decode cX3_parted 5 = .ok (.iload_n 3, 1) := by decide +kernel
theorem dX3_parted_6 : decode cX3_parted 6 = .ok (.iaload, 1) := by decide +kernel
theorem dX3_parted_7 : decode cX3_parted 7 = .ok (.i2l, 1) := by decide +kernel
theorem dX3_parted_8 : decode cX3_parted 8 = .ok (.lcmp, 1) := by decide +kernel
theorem dX3_parted_9 : decode cX3_parted 9 = .ok (.ifCond .ge 7, 3) := by decide +kernel
theorem dX3_parted_12 : decode cX3_parted 12 = .ok (.lload_n 1, 1) := by decide +kernel
theorem dX3_parted_13 : decode cX3_parted 13 = .ok (.goto 10, 3) := by decide +kernel
theorem dX3_parted_16 : decode cX3_parted 16 = .ok (.aload_n 0, 1) := by decide +kernel
theorem dX3_parted_17 : decode cX3_parted 17 = .ok (.getfield 34, 3) := by decide +kernel
theorem dX3_parted_20 : decode cX3_parted 20 = .ok (.iload_n 3, 1) := by decide +kernel
theorem dX3_parted_21 : decode cX3_parted 21 = .ok (.iaload, 1) := by decide +kernel
theorem dX3_parted_22 : decode cX3_parted 22 = .ok (.i2l, 1) := by decide +kernel
theorem dX3_parted_23 : decode cX3_parted 23 = .ok (.lstore 4, 2) := by decide +kernel
theorem dX3_parted_25 : decode cX3_parted 25 = .ok (.lload 4, 2) := by decide +kernel
theorem dX3_parted_27 : decode cX3_parted 27 = .ok (.aload_n 0, 1) := by decide +kernel
theorem dX3_parted_28 : decode cX3_parted 28 = .ok (.getfield 37, 3) := by decide +kernel
theorem dX3_parted_31 : decode cX3_parted 31 = .ok (.iload_n 3, 1) := by decide +kernel
theorem dX3_parted_32 : decode cX3_parted 32 = .ok (.iaload, 1) := by decide +kernel
theorem dX3_parted_33 : decode cX3_parted 33 = .ok (.i2l, 1) := by decide +kernel
theorem dX3_parted_34 : decode cX3_parted 34 = .ok (.lmul, 1) := by decide +kernel
theorem dX3_parted_35 : decode cX3_parted 35 = .ok (.lload_n 1, 1) := by decide +kernel
theorem dX3_parted_36 : decode cX3_parted 36 = .ok (.lload 4, 2) := by decide +kernel
theorem dX3_parted_38 : decode cX3_parted 38 = .ok (.lsub, 1) := by decide +kernel
theorem dX3_parted_39 : decode cX3_parted 39 = .ok (.aload_n 0, 1) := by decide +kernel
theorem dX3_parted_40 : decode cX3_parted 40 = .ok (.getfield 40, 3) := by decide +kernel
theorem dX3_parted_43 : decode cX3_parted 43 = .ok (.iload_n 3, 1) := by decide +kernel
theorem dX3_parted_44 : decode cX3_parted 44 = .ok (.iaload, 1) := by decide +kernel
theorem dX3_parted_45 : decode cX3_parted 45 = .ok (.i2l, 1) := by decide +kernel
theorem dX3_parted_46 : decode cX3_parted 46 = .ok (.lmul, 1) := by decide +kernel
theorem dX3_parted_47 : decode cX3_parted 47 = .ok (.ladd, 1) := by decide +kernel
theorem dX3_parted_48 : decode cX3_parted 48 = .ok (.ldc2_w 97, 3) := by decide +kernel
theorem dX3_parted_51 : decode cX3_parted 51 = .ok (.ldiv, 1) := by decide +kernel
theorem dX3_parted_52 : decode cX3_parted 52 = .ok (.lreturn, 1) := by decide +kernel
set_option maxRecDepth 20000 in
theorem ggX3_upTo_X3_grossOf : GoodIn wsX3_upTo wsX3_grossOf := goodIn_r _ [10, 11, 12, 13, 9, 14, 26, 27, 28, 29, 30, 31, 32, 33, 34, 35, 36, 37, 38, 39, 40, 41, 42, 43, 44] (by decide +kernel) (by decide +kernel)
set_option maxRecDepth 20000 in
theorem gX3_upTo_X3_grossOf : GoodIn wsX3_upTo (wsV RX3 93 RX3 yX3_grossOf wsX3_grossOf) := goodIn_app (goodIn_of _ (by decide +kernel)) ggX3_upTo_X3_grossOf
set_option maxRecDepth 20000 in
theorem ggX3_upTo_X3_adjustedOf : GoodIn wsX3_upTo wsX3_adjustedOf := goodIn_r _ [18, 19, 20, 6, 7, 8, 9, 10, 11, 12, 13, 14, 26, 27, 28, 29, 30, 31, 32, 33, 34, 35, 36, 37, 38, 39, 40, 41, 42, 43, 44] (by decide +kernel) (by decide +kernel)
set_option maxRecDepth 20000 in
theorem gX3_upTo_X3_adjustedOf : GoodIn wsX3_upTo (wsV RX3 99 RX3 yX3_adjustedOf wsX3_adjustedOf) := goodIn_app (goodIn_of _ (by decide +kernel)) ggX3_upTo_X3_adjustedOf
set_option maxRecDepth 20000 in
theorem ggX3_upTo_X3_parted : GoodIn wsX3_upTo wsX3_parted := goodIn_r _ [24, 3, 5, 25, 20, 26, 27, 28, 29, 30, 31, 32, 33, 34, 35, 36, 37, 38, 39, 40, 41, 42, 43, 44] (by decide +kernel) (by decide +kernel)
set_option maxRecDepth 20000 in
theorem gX3_upTo_X3_parted : GoodIn wsX3_upTo (wsV RX3 102 RX3 yX3_parted wsX3_parted) := goodIn_app (goodIn_of _ (by decide +kernel)) ggX3_upTo_X3_parted
theorem dX3_upTo_0 : decode cX3_upTo 0 = .ok (.lconst 0, 1) := by decide +kernel
theorem dX3_upTo_1 : decode cX3_upTo 1 = .ok (.lstore_n 3, 1) := by decide +kernel
theorem dX3_upTo_2 : decode cX3_upTo 2 = .ok (.lconst 0, 1) := by decide +kernel
theorem dX3_upTo_3 : decode cX3_upTo 3 = .ok (.lstore 5, 2) := by decide +kernel
theorem dX3_upTo_5 : decode cX3_upTo 5 = .ok (.iconst 0, 1) := by decide +kernel
theorem dX3_upTo_6 : decode cX3_upTo 6 = .ok (.istore 7, 2) := by decide +kernel
theorem dX3_upTo_8 : decode cX3_upTo 8 = .ok (.iload 7, 2) := by decide +kernel
theorem dX3_upTo_10 : decode cX3_upTo 10 = .ok (.iload_n 2, 1) := by decide +kernel
theorem dX3_upTo_11 : decode cX3_upTo 11 = .ok (.if_icmp .gt 41, 3) := by decide +kernel
theorem dX3_upTo_14 : decode cX3_upTo 14 = .ok (.lload_n 3, 1) := by decide +kernel
theorem dX3_upTo_15 : decode cX3_upTo 15 = .ok (.aload_n 0, 1) := by decide +kernel
theorem dX3_upTo_16 : decode cX3_upTo 16 = .ok (.aload_n 0, 1) := by decide +kernel
theorem dX3_upTo_17 : decode cX3_upTo 17 = .ok (.getfield 28, 3) := by decide +kernel
theorem dX3_upTo_20 : decode cX3_upTo 20 = .ok (.iload_n 1, 1) := by decide +kernel
theorem dX3_upTo_21 : decode cX3_upTo 21 = .ok (.iaload, 1) := by decide +kernel
theorem dX3_upTo_22 : decode cX3_upTo 22 = .ok (.iload 7, 2) := by decide +kernel
theorem dX3_upTo_24 : decode cX3_upTo 24 = .ok (.invokevirtual 93, 3) := by decide +kernel
theorem dX3_upTo_27 : decode cX3_upTo 27 = .ok (.ladd, 1) := by decide +kernel
theorem dX3_upTo_28 : decode cX3_upTo 28 = .ok (.lstore_n 3, 1) := by decide +kernel
theorem dX3_upTo_29 : decode cX3_upTo 29 = .ok (.lload 5, 2) := by decide +kernel
theorem dX3_upTo_31 : decode cX3_upTo 31 = .ok (.aload_n 0, 1) := by decide +kernel
theorem dX3_upTo_32 : decode cX3_upTo 32 = .ok (.aload_n 0, 1) := by decide +kernel
theorem dX3_upTo_33 : decode cX3_upTo 33 = .ok (.getfield 28, 3) := by decide +kernel
theorem dX3_upTo_36 : decode cX3_upTo 36 = .ok (.iload_n 1, 1) := by decide +kernel
theorem dX3_upTo_37 : decode cX3_upTo 37 = .ok (.iaload, 1) := by decide +kernel
theorem dX3_upTo_38 : decode cX3_upTo 38 = .ok (.iload 7, 2) := by decide +kernel
theorem dX3_upTo_40 : decode cX3_upTo 40 = .ok (.invokevirtual 99, 3) := by decide +kernel
theorem dX3_upTo_43 : decode cX3_upTo 43 = .ok (.ladd, 1) := by decide +kernel
theorem dX3_upTo_44 : decode cX3_upTo 44 = .ok (.lstore 5, 2) := by decide +kernel
theorem dX3_upTo_46 : decode cX3_upTo 46 = .ok (.iinc 7 1, 3) := by decide +kernel
theorem dX3_upTo_49 : decode cX3_upTo 49 = .ok (.goto (-41), 3) := by decide +kernel
theorem dX3_upTo_52 : decode cX3_upTo 52 = .ok (.aload_n 0, 1) := by decide +kernel
theorem dX3_upTo_53 : decode cX3_upTo 53 = .ok (.getfield 31, 3) := by decide +kernel
theorem dX3_upTo_56 : decode cX3_upTo 56 = .ok (.iload_n 1, 1) := by decide +kernel
theorem dX3_upTo_57 : decode cX3_upTo 57 = .ok (.iaload, 1) := by decide +kernel
theorem dX3_upTo_58 : decode cX3_upTo 58 = .ok (.ifCond .ne 11, 3) := by decide +kernel
theorem dX3_upTo_61 : decode cX3_upTo 61 = .ok (.aload_n 0, 1) := by decide +kernel
theorem dX3_upTo_62 : decode cX3_upTo 62 = .ok (.lload 5, 2) := by decide +kernel
theorem dX3_upTo_64 : decode cX3_upTo 64 = .ok (.iload_n 1, 1) := by decide +kernel
theorem dX3_upTo_65 : decode cX3_upTo 65 = .ok (.invokevirtual 102, 3) := by decide +kernel
theorem dX3_upTo_68 : decode cX3_upTo 68 = .ok (.lreturn, 1) := by decide +kernel
theorem dX3_upTo_69 : decode cX3_upTo 69 = .ok (.iload_n 2, 1) := by decide +kernel
theorem dX3_upTo_70 : decode cX3_upTo 70 = .ok (.ifCond .lt 29, 3) := by decide +kernel
theorem dX3_upTo_73 : decode cX3_upTo 73 = .ok (.lload_n 3, 1) := by decide +kernel
theorem dX3_upTo_74 : decode cX3_upTo 74 = .ok (.aload_n 0, 1) := by decide +kernel
theorem dX3_upTo_75 : decode cX3_upTo 75 = .ok (.getfield 34, 3) := by decide +kernel
theorem dX3_upTo_78 : decode cX3_upTo 78 = .ok (.iload_n 1, 1) := by decide +kernel
theorem dX3_upTo_79 : decode cX3_upTo 79 = .ok (.iaload, 1) := by decide +kernel
theorem dX3_upTo_80 : decode cX3_upTo 80 = .ok (.i2l, 1) := by decide +kernel
theorem dX3_upTo_81 : decode cX3_upTo 81 = .ok (.lcmp, 1) := by decide +kernel
theorem dX3_upTo_82 : decode cX3_upTo 82 = .ok (.ifCond .lt 17, 3) := by decide +kernel
theorem dX3_upTo_85 : decode cX3_upTo 85 = .ok (.ldc2_w 106, 3) := by decide +kernel
theorem dX3_upTo_88 : decode cX3_upTo 88 = .ok (.aload_n 0, 1) := by decide +kernel
theorem dX3_upTo_89 : decode cX3_upTo 89 = .ok (.getfield 37, 3) := by decide +kernel
theorem dX3_upTo_92 : decode cX3_upTo 92 = .ok (.iload_n 1, 1) := by decide +kernel
theorem dX3_upTo_93 : decode cX3_upTo 93 = .ok (.iaload, 1) := by decide +kernel
theorem dX3_upTo_94 : decode cX3_upTo 94 = .ok (.i2l, 1) := by decide +kernel
theorem dX3_upTo_95 : decode cX3_upTo 95 = .ok (.lmul, 1) := by decide +kernel
theorem dX3_upTo_96 : decode cX3_upTo 96 = .ok (.goto 4, 3) := by decide +kernel
theorem dX3_upTo_99 : decode cX3_upTo 99 = .ok (.lconst 0, 1) := by decide +kernel
theorem dX3_upTo_100 : decode cX3_upTo 100 = .ok (.lreturn, 1) := by decide +kernel
theorem dX3_move_0 : decode cX3_move 0 = .ok (.aload_n 0, 1) := by decide +kernel
theorem dX3_move_1 : decode cX3_move 1 = .ok (.getfield 53, 3) := by decide +kernel
theorem dX3_move_4 : decode cX3_move 4 = .ok (.iload_n 1, 1) := by decide +kernel
theorem dX3_move_5 : decode cX3_move 5 = .ok (.laload, 1) := by decide +kernel
theorem dX3_move_6 : decode cX3_move 6 = .ok (.aload_n 0, 1) := by decide +kernel
theorem dX3_move_7 : decode cX3_move 7 = .ok (.getfield 46, 3) := by decide +kernel
theorem dX3_move_10 : decode cX3_move 10 = .ok (.bipush 10, 2) := by decide +kernel
theorem dX3_move_12 : decode cX3_move 12 = .ok (.iload_n 2, 1) := by decide +kernel
theorem dX3_move_13 : decode cX3_move 13 = .ok (.imul, 1) := by decide +kernel
theorem dX3_move_14 : decode cX3_move 14 = .ok (.iload_n 3, 1) := by decide +kernel
theorem dX3_move_15 : decode cX3_move 15 = .ok (.iadd, 1) := by decide +kernel
theorem dX3_move_16 : decode cX3_move 16 = .ok (.laload, 1) := by decide +kernel
theorem dX3_move_17 : decode cX3_move 17 = .ok (.lcmp, 1) := by decide +kernel
theorem dX3_move_18 : decode cX3_move 18 = .ok (.ifCond .ge 12, 3) := by decide +kernel
theorem dX3_move_21 : decode cX3_move 21 = .ok (.aload_n 0, 1) := by decide +kernel
theorem dX3_move_22 : decode cX3_move 22 = .ok (.getfield 53, 3) := by decide +kernel
theorem dX3_move_25 : decode cX3_move 25 = .ok (.iload_n 1, 1) := by decide +kernel
theorem dX3_move_26 : decode cX3_move 26 = .ok (.laload, 1) := by decide +kernel
theorem dX3_move_27 : decode cX3_move 27 = .ok (.goto 14, 3) := by decide +kernel
theorem dX3_move_30 : decode cX3_move 30 = .ok (.aload_n 0, 1) := by decide +kernel
theorem dX3_move_31 : decode cX3_move 31 = .ok (.getfield 46, 3) := by decide +kernel
theorem dX3_move_34 : decode cX3_move 34 = .ok (.bipush 10, 2) := by decide +kernel
theorem dX3_move_36 : decode cX3_move 36 = .ok (.iload_n 2, 1) := by decide +kernel
theorem dX3_move_37 : decode cX3_move 37 = .ok (.imul, 1) := by decide +kernel
theorem dX3_move_38 : decode cX3_move 38 = .ok (.iload_n 3, 1) := by decide +kernel
theorem dX3_move_39 : decode cX3_move 39 = .ok (.iadd, 1) := by decide +kernel
theorem dX3_move_40 : decode cX3_move 40 = .ok (.laload, 1) := by decide +kernel
theorem dX3_move_41 : decode cX3_move 41 = .ok (.lstore 4, 2) := by decide +kernel
theorem dX3_move_43 : decode cX3_move 43 = .ok (.aload_n 0, 1) := by decide +kernel
theorem dX3_move_44 : decode cX3_move 44 = .ok (.getfield 50, 3) := by decide +kernel
theorem dX3_move_47 : decode cX3_move 47 = .ok (.bipush 10, 2) := by decide +kernel
theorem dX3_move_49 : decode cX3_move 49 = .ok (.iload_n 1, 1) := by decide +kernel
theorem dX3_move_50 : decode cX3_move 50 = .ok (.imul, 1) := by decide +kernel
theorem dX3_move_51 : decode cX3_move 51 = .ok (.iload_n 3, 1) := by decide +kernel
theorem dX3_move_52 : decode cX3_move 52 = .ok (.iadd, 1) := by decide +kernel
theorem dX3_move_53 : decode cX3_move 53 = .ok (.dup2, 1) := by decide +kernel
theorem dX3_move_54 : decode cX3_move 54 = .ok (.laload, 1) := by decide +kernel
theorem dX3_move_55 : decode cX3_move 55 = .ok (.lload 4, 2) := by decide +kernel
theorem dX3_move_57 : decode cX3_move 57 = .ok (.lsub, 1) := by decide +kernel
theorem dX3_move_58 : decode cX3_move 58 = .ok (.lastore, 1) := by decide +kernel
theorem dX3_move_59 : decode cX3_move 59 = .ok (.aload_n 0, 1) := by decide +kernel
theorem dX3_move_60 : decode cX3_move 60 = .ok (.getfield 53, 3) := by decide +kernel
theorem dX3_move_63 : decode cX3_move 63 = .ok (.iload_n 1, 1) := by decide +kernel
theorem dX3_move_64 : decode cX3_move 64 = .ok (.dup2, 1) := by decide +kernel
theorem dX3_move_65 : decode cX3_move 65 = .ok (.laload, 1) := by decide +kernel
theorem dX3_move_66 : decode cX3_move 66 = .ok (.lload 4, 2) := by decide +kernel
theorem dX3_move_68 : decode cX3_move 68 = .ok (.lsub, 1) := by decide +kernel
theorem dX3_move_69 : decode cX3_move 69 = .ok (.lastore, 1) := by decide +kernel
theorem dX3_move_70 : decode cX3_move 70 = .ok (.aload_n 0, 1) := by decide +kernel
theorem dX3_move_71 : decode cX3_move 71 = .ok (.getfield 46, 3) := by decide +kernel
theorem dX3_move_74 : decode cX3_move 74 = .ok (.bipush 10, 2) := by decide +kernel
theorem dX3_move_76 : decode cX3_move 76 = .ok (.iload_n 2, 1) := by decide +kernel
theorem dX3_move_77 : decode cX3_move 77 = .ok (.imul, 1) := by decide +kernel
theorem dX3_move_78 : decode cX3_move 78 = .ok (.iload_n 3, 1) := by decide +kernel
theorem dX3_move_79 : decode cX3_move 79 = .ok (.iadd, 1) := by decide +kernel
theorem dX3_move_80 : decode cX3_move 80 = .ok (.dup2, 1) := by decide +kernel
theorem dX3_move_81 : decode cX3_move 81 = .ok (.laload, 1) := by decide +kernel
theorem dX3_move_82 : decode cX3_move 82 = .ok (.lload 4, 2) := by decide +kernel
theorem dX3_move_84 : decode cX3_move 84 = .ok (.lsub, 1) := by decide +kernel
theorem dX3_move_85 : decode cX3_move 85 = .ok (.lastore, 1) := by decide +kernel
theorem dX3_move_86 : decode cX3_move 86 = .ok (.return_, 1) := by decide +kernel
set_option maxRecDepth 20000 in
theorem ggX3_lay_X3_upTo : GoodIn wsX3_lay wsX3_upTo := goodIn_r _ [17, 7, 8, 18, 19, 20, 21, 22, 23, 16, 24, 25, 26, 27, 28, 29, 30, 31, 32, 33, 5, 34, 35, 36, 37, 38, 48, 49, 50, 51, 52, 53, 54, 55, 56, 57, 58, 59, 60, 61, 62, 63, 64, 65, 66] (by decide +kernel) (by decide +kernel)
set_option maxRecDepth 20000 in
theorem gX3_lay_X3_upTo : GoodIn wsX3_lay (wsV RX3 108 RX3 yX3_upTo wsX3_upTo) := goodIn_app (goodIn_of _ (by decide +kernel)) ggX3_lay_X3_upTo
set_option maxRecDepth 20000 in
theorem ggX3_lay_X3_adjustedOf : GoodIn wsX3_lay wsX3_adjustedOf := goodIn_r _ [32, 33, 5, 21, 22, 23, 16, 24, 25, 26, 27, 28, 48, 49, 50, 51, 52, 53, 54, 55, 56, 57, 58, 59, 60, 61, 62, 63, 64, 65, 66] (by decide +kernel) (by decide +kernel)
set_option maxRecDepth 20000 in
theorem gX3_lay_X3_adjustedOf : GoodIn wsX3_lay (wsV RX3 99 RX3 yX3_adjustedOf wsX3_adjustedOf) := goodIn_app (goodIn_of _ (by decide +kernel)) ggX3_lay_X3_adjustedOf
set_option maxRecDepth 20000 in
theorem ggX3_lay_X3_feesOf : GoodIn wsX3_lay wsX3_feesOf := goodIn_r _ [42, 25, 43, 5, 26, 27, 16, 28, 48, 49, 50, 51, 52, 53, 54, 55, 56, 57, 58, 59, 60, 61, 62, 63, 64, 65, 66] (by decide +kernel) (by decide +kernel)
set_option maxRecDepth 20000 in
theorem gX3_lay_X3_feesOf : GoodIn wsX3_lay (wsV RX3 111 RX3 yX3_feesOf wsX3_feesOf) := goodIn_app (goodIn_of _ (by decide +kernel)) ggX3_lay_X3_feesOf
set_option maxRecDepth 20000 in
theorem ggX3_lay_X3_move : GoodIn wsX3_lay wsX3_move := goodIn_r _ [47, 9, 2, 10, 48, 49, 50, 51, 52, 53, 54, 55, 56, 57, 58, 59, 60, 61, 62, 63, 64, 65, 66] (by decide +kernel) (by decide +kernel)
set_option maxRecDepth 20000 in
theorem gX3_lay_X3_move : GoodIn wsX3_lay (wsV RX3 114 RX3 yX3_move wsX3_move) := goodIn_app (goodIn_of _ (by decide +kernel)) ggX3_lay_X3_move
theorem dX3_lay_0 : decode cX3_lay 0 = .ok (.iconst 0, 1) := by decide +kernel
theorem dX3_lay_1 : decode cX3_lay 1 = .ok (.istore_n 1, 1) := by decide +kernel
theorem dX3_lay_2 : decode cX3_lay 2 = .ok (.iload_n 1, 1) := by decide +kernel
theorem dX3_lay_3 : decode cX3_lay 3 = .ok (.aload_n 0, 1) := by decide +kernel
theorem dX3_lay_4 : decode cX3_lay 4 = .ok (.getfield 85, 3) := by decide +kernel
theorem dX3_lay_7 : decode cX3_lay 7 = .ok (.if_icmp .gt 321, 3) := by decide +kernel
theorem dX3_lay_10 : decode cX3_lay 10 = .ok (.iconst 0, 1) := by decide +kernel
theorem dX3_lay_11 : decode cX3_lay 11 = .ok (.istore_n 2, 1) := by decide +kernel
theorem dX3_lay_12 : decode cX3_lay 12 = .ok (.iload_n 2, 1) := by decide +kernel
theorem dX3_lay_13 : decode cX3_lay 13 = .ok (.iconst 2, 1) := by decide +kernel
theorem dX3_lay_14 : decode cX3_lay 14 = .ok (.if_icmp .ge 240, 3) := by decide +kernel
theorem dX3_lay_17 : decode cX3_lay 17 = .ok (.bipush 10, 2) := by decide +kernel
theorem dX3_lay_19 : decode cX3_lay 19 = .ok (.iload_n 2, 1) := by decide +kernel
theorem dX3_lay_20 : decode cX3_lay 20 = .ok (.imul, 1) := by decide +kernel
theorem dX3_lay_21 : decode cX3_lay 21 = .ok (.iload_n 1, 1) := by decide +kernel
theorem dX3_lay_22 : decode cX3_lay 22 = .ok (.iadd, 1) := by decide +kernel
theorem dX3_lay_23 : decode cX3_lay 23 = .ok (.istore_n 3, 1) := by decide +kernel
theorem dX3_lay_24 : decode cX3_lay 24 = .ok (.iload_n 1, 1) := by decide +kernel
theorem dX3_lay_25 : decode cX3_lay 25 = .ok (.ifCond .ne 7, 3) := by decide +kernel
theorem dX3_lay_28 : decode cX3_lay 28 = .ok (.lconst 0, 1) := by decide +kernel
theorem dX3_lay_29 : decode cX3_lay 29 = .ok (.goto 11, 3) := by decide +kernel
theorem dX3_lay_32 : decode cX3_lay 32 = .ok (.aload_n 0, 1) := by decide +kernel
theorem dX3_lay_33 : decode cX3_lay 33 = .ok (.getfield 46, 3) := by decide +kernel
theorem dX3_lay_36 : decode cX3_lay 36 = .ok (.iload_n 3, 1) := by decide +kernel
theorem dX3_lay_37 : decode cX3_lay 37 = .ok (.iconst 1, 1) := by decide +kernel
theorem dX3_lay_38 : decode cX3_lay 38 = .ok (.isub, 1) := by decide +kernel
theorem dX3_lay_39 : decode cX3_lay 39 = .ok (.laload, 1) := by decide +kernel
theorem dX3_lay_40 : decode cX3_lay 40 = .ok (.lstore 4, 2) := by decide +kernel
theorem dX3_lay_42 : decode cX3_lay 42 = .ok (.lload 4, 2) := by decide +kernel
theorem dX3_lay_44 : decode cX3_lay 44 = .ok (.aload_n 0, 1) := by decide +kernel
theorem dX3_lay_45 : decode cX3_lay 45 = .ok (.getfield 13, 3) := by decide +kernel
theorem dX3_lay_48 : decode cX3_lay 48 = .ok (.iload_n 3, 1) := by decide +kernel
theorem dX3_lay_49 : decode cX3_lay 49 = .ok (.iaload, 1) := by decide +kernel
theorem dX3_lay_50 : decode cX3_lay 50 = .ok (.i2l, 1) := by decide +kernel
theorem dX3_lay_51 : decode cX3_lay 51 = .ok (.aload_n 0, 1) := by decide +kernel
theorem dX3_lay_52 : decode cX3_lay 52 = .ok (.getfield 13, 3) := by decide +kernel
theorem dX3_lay_55 : decode cX3_lay 55 = .ok (.iload_n 3, 1) := by decide +kernel
theorem dX3_lay_56 : decode cX3_lay 56 = .ok (.iaload, 1) := by decide +kernel
theorem dX3_lay_57 : decode cX3_lay 57 = .ok (.i2l, 1) := by decide +kernel
theorem dX3_lay_58 : decode cX3_lay 58 = .ok (.aload_n 0, 1) := by decide +kernel
theorem dX3_lay_59 : decode cX3_lay 59 = .ok (.getfield 22, 3) := by decide +kernel
theorem dX3_lay_62 : decode cX3_lay 62 = .ok (.iload_n 2, 1) := by decide +kernel
theorem dX3_lay_63 : decode cX3_lay 63 = .ok (.iaload, 1) := by decide +kernel
theorem dX3_lay_64 : decode cX3_lay 64 = .ok (.i2l, 1) := by decide +kernel
theorem dX3_lay_65 : decode cX3_lay 65 = .ok (.lmul, 1) := by decide +kernel
theorem dX3_lay_66 : decode cX3_lay 66 = .ok (.ldc2_w 97, 3) := by decide +kernel
theorem dX3_lay_69 : decode cX3_lay 69 = .ok (.ldiv, 1) := by decide +kernel
theorem dX3_lay_70 : decode cX3_lay 70 = .ok (.ladd, 1) := by decide +kernel
theorem dX3_lay_71 : decode cX3_lay 71 = .ok (.ladd, 1) := by decide +kernel
theorem dX3_lay_72 : decode cX3_lay 72 = .ok (.lstore 4, 2) := by decide +kernel
theorem dX3_lay_74 : decode cX3_lay 74 = .ok (.iconst 0, 1) := by decide +kernel
theorem dX3_lay_75 : decode cX3_lay 75 = .ok (.istore 6, 2) := by decide +kernel
theorem dX3_lay_77 : decode cX3_lay 77 = .ok (.iload 6, 2) := by decide +kernel
theorem dX3_lay_79 : decode cX3_lay 79 = .ok (.aload_n 0, 1) := by decide +kernel
theorem dX3_lay_80 : decode cX3_lay 80 = .ok (.getfield 81, 3) := by decide +kernel
theorem dX3_lay_83 : decode cX3_lay 83 = .ok (.if_icmp .ge 79, 3) := by decide +kernel
theorem dX3_lay_86 : decode cX3_lay 86 = .ok (.aload_n 0, 1) := by decide +kernel
theorem dX3_lay_87 : decode cX3_lay 87 = .ok (.getfield 28, 3) := by decide +kernel
theorem dX3_lay_90 : decode cX3_lay 90 = .ok (.iload 6, 2) := by decide +kernel
theorem dX3_lay_92 : decode cX3_lay 92 = .ok (.iaload, 1) := by decide +kernel
theorem dX3_lay_93 : decode cX3_lay 93 = .ok (.iload_n 2, 1) := by decide +kernel
theorem dX3_lay_94 : decode cX3_lay 94 = .ok (.if_icmp .ne 28, 3) := by decide +kernel
theorem dX3_lay_97 : decode cX3_lay 97 = .ok (.aload_n 0, 1) := by decide +kernel
theorem dX3_lay_98 : decode cX3_lay 98 = .ok (.getfield 31, 3) := by decide +kernel
theorem dX3_lay_101 : decode cX3_lay 101 = .ok (.iload 6, 2) := by decide +kernel
theorem dX3_lay_103 : decode cX3_lay 103 = .ok (.iaload, 1) := by decide +kernel
theorem dX3_lay_104 : decode cX3_lay 104 = .ok (.ifCond .eq 14, 3) := by decide +kernel
theorem dX3_lay_107 : decode cX3_lay 107 = .ok (.aload_n 0, 1) := by decide +kernel
theorem dX3_lay_108 : decode cX3_lay 108 = .ok (.getfield 31, 3) := by decide +kernel
theorem dX3_lay_111 : decode cX3_lay 111 = .ok (.iload 6, 2) := by decide +kernel
theorem dX3_lay_113 : decode cX3_lay 113 = .ok (.iaload, 1) := by decide +kernel
theorem dX3_lay_114 : decode cX3_lay 114 = .ok (.iconst 3, 1) := by decide +kernel
theorem dX3_lay_115 : decode cX3_lay 115 = .ok (.if_icmp .ne 7, 3) := by decide +kernel
theorem dX3_lay_118 : decode cX3_lay 118 = .ok (.iconst 1, 1) := by decide +kernel
theorem dX3_lay_119 : decode cX3_lay 119 = .ok (.goto 4, 3) := by decide +kernel
theorem dX3_lay_122 : decode cX3_lay 122 = .ok (.iconst 0, 1) := by decide +kernel
theorem dX3_lay_123 : decode cX3_lay 123 = .ok (.istore 7, 2) := by decide +kernel
theorem dX3_lay_125 : decode cX3_lay 125 = .ok (.lload 4, 2) := by decide +kernel
theorem dX3_lay_127 : decode cX3_lay 127 = .ok (.iload 7, 2) := by decide +kernel
theorem dX3_lay_129 : decode cX3_lay 129 = .ok (.ifCond .eq 23, 3) := by decide +kernel
theorem dX3_lay_132 : decode cX3_lay 132 = .ok (.aload_n 0, 1) := by decide +kernel
theorem dX3_lay_133 : decode cX3_lay 133 = .ok (.iload 6, 2) := by decide +kernel
theorem dX3_lay_135 : decode cX3_lay 135 = .ok (.iload_n 1, 1) := by decide +kernel
theorem dX3_lay_136 : decode cX3_lay 136 = .ok (.invokevirtual 108, 3) := by decide +kernel
theorem dX3_lay_139 : decode cX3_lay 139 = .ok (.aload_n 0, 1) := by decide +kernel
theorem dX3_lay_140 : decode cX3_lay 140 = .ok (.iload 6, 2) := by decide +kernel
theorem dX3_lay_142 : decode cX3_lay 142 = .ok (.iload_n 1, 1) := by decide +kernel
theorem dX3_lay_143 : decode cX3_lay 143 = .ok (.iconst 1, 1) := by decide +kernel
theorem dX3_lay_144 : decode cX3_lay 144 = .ok (.isub, 1) := by decide +kernel
theorem dX3_lay_145 : decode cX3_lay 145 = .ok (.invokevirtual 108, 3) := by decide +kernel
theorem dX3_lay_148 : decode cX3_lay 148 = .ok (.lsub, 1) := by decide +kernel
theorem dX3_lay_149 : decode cX3_lay 149 = .ok (.goto 4, 3) := by decide +kernel
theorem dX3_lay_152 : decode cX3_lay 152 = .ok (.lconst 0, 1) := by decide +kernel
theorem dX3_lay_153 : decode cX3_lay 153 = .ok (.ladd, 1) := by decide +kernel
theorem dX3_lay_154 : decode cX3_lay 154 = .ok (.lstore 4, 2) := by decide +kernel
theorem dX3_lay_156 : decode cX3_lay 156 = .ok (.iinc 6 1, 3) := by decide +kernel
theorem dX3_lay_159 : decode cX3_lay 159 = .ok (.goto (-82), 3) := by decide +kernel
theorem dX3_lay_162 : decode cX3_lay 162 = .ok (.lload 4, 2) := by decide +kernel
theorem dX3_lay_164 : decode cX3_lay 164 = .ok (.aload_n 0, 1) := by decide +kernel
theorem dX3_lay_165 : decode cX3_lay 165 = .ok (.iload_n 2, 1) := by decide +kernel
theorem dX3_lay_166 : decode cX3_lay 166 = .ok (.iload_n 1, 1) := by decide +kernel
theorem dX3_lay_167 : decode cX3_lay 167 = .ok (.invokevirtual 99, 3) := by decide +kernel
theorem dX3_lay_170 : decode cX3_lay 170 = .ok (.aload_n 0, 1) := by decide +kernel
theorem dX3_lay_171 : decode cX3_lay 171 = .ok (.iload_n 2, 1) := by decide +kernel
theorem dX3_lay_172 : decode cX3_lay 172 = .ok (.iload_n 1, 1) := by decide +kernel
theorem dX3_lay_173 : decode cX3_lay 173 = .ok (.invokevirtual 111, 3) := by decide +kernel
theorem dX3_lay_176 : decode cX3_lay 176 = .ok (.lsub, 1) := by decide +kernel
theorem dX3_lay_177 : decode cX3_lay 177 = .ok (.lsub, 1) := by decide +kernel
theorem dX3_lay_178 : decode cX3_lay 178 = .ok (.lstore 4, 2) := by decide +kernel
theorem dX3_lay_180 : decode cX3_lay 180 = .ok (.aload_n 0, 1) := by decide +kernel
theorem dX3_lay_181 : decode cX3_lay 181 = .ok (.getfield 53, 3) := by decide +kernel
theorem dX3_lay_184 : decode cX3_lay 184 = .ok (.iload_n 2, 1) := by decide +kernel
theorem dX3_lay_185 : decode cX3_lay 185 = .ok (.lload 4, 2) := by decide +kernel
theorem dX3_lay_187 : decode cX3_lay 187 = .ok (.lconst 0, 1) := by decide +kernel
theorem dX3_lay_188 : decode cX3_lay 188 = .ok (.lcmp, 1) := by decide +kernel
theorem dX3_lay_189 : decode cX3_lay 189 = .ok (.ifCond .ge 9, 3) := by decide +kernel
theorem dX3_lay_192 : decode cX3_lay 192 = .ok (.lload 4, 2) := by decide +kernel
theorem dX3_lay_194 : decode cX3_lay 194 = .ok (.lneg, 1) := by decide +kernel
theorem dX3_lay_195 : decode cX3_lay 195 = .ok (.goto 4, 3) := by decide +kernel
theorem dX3_lay_198 : decode cX3_lay 198 = .ok (.lconst 0, 1) := by decide +kernel
theorem dX3_lay_199 : decode cX3_lay 199 = .ok (.lastore, 1) := by decide +kernel
theorem dX3_lay_200 : decode cX3_lay 200 = .ok (.aload_n 0, 1) := by decide +kernel
theorem dX3_lay_201 : decode cX3_lay 201 = .ok (.getfield 46, 3) := by decide +kernel
theorem dX3_lay_204 : decode cX3_lay 204 = .ok (.iload_n 3, 1) := by decide +kernel
theorem dX3_lay_205 : decode cX3_lay 205 = .ok (.lload 4, 2) := by decide +kernel
theorem dX3_lay_207 : decode cX3_lay 207 = .ok (.lconst 0, 1) := by decide +kernel
theorem dX3_lay_208 : decode cX3_lay 208 = .ok (.lcmp, 1) := by decide +kernel
theorem dX3_lay_209 : decode cX3_lay 209 = .ok (.ifCond .ge 7, 3) := by decide +kernel
theorem dX3_lay_212 : decode cX3_lay 212 = .ok (.lconst 0, 1) := by decide +kernel
theorem dX3_lay_213 : decode cX3_lay 213 = .ok (.goto 5, 3) := by decide +kernel
theorem dX3_lay_216 : decode cX3_lay 216 = .ok (.lload 4, 2) := by decide +kernel
theorem dX3_lay_218 : decode cX3_lay 218 = .ok (.lastore, 1) := by decide +kernel
theorem dX3_lay_219 : decode cX3_lay 219 = .ok (.aload_n 0, 1) := by decide +kernel
theorem dX3_lay_220 : decode cX3_lay 220 = .ok (.getfield 50, 3) := by decide +kernel
theorem dX3_lay_223 : decode cX3_lay 223 = .ok (.iload_n 3, 1) := by decide +kernel
theorem dX3_lay_224 : decode cX3_lay 224 = .ok (.aload_n 0, 1) := by decide +kernel
theorem dX3_lay_225 : decode cX3_lay 225 = .ok (.getfield 53, 3) := by decide +kernel
theorem dX3_lay_228 : decode cX3_lay 228 = .ok (.iload_n 2, 1) := by decide +kernel
theorem dX3_lay_229 : decode cX3_lay 229 = .ok (.laload, 1) := by decide +kernel
theorem dX3_lay_230 : decode cX3_lay 230 = .ok (.iload_n 1, 1) := by decide +kernel
theorem dX3_lay_231 : decode cX3_lay 231 = .ok (.ifCond .ne 7, 3) := by decide +kernel
theorem dX3_lay_234 : decode cX3_lay 234 = .ok (.lconst 0, 1) := by decide +kernel
theorem dX3_lay_235 : decode cX3_lay 235 = .ok (.goto 11, 3) := by decide +kernel
theorem dX3_lay_238 : decode cX3_lay 238 = .ok (.aload_n 0, 1) := by decide +kernel
theorem dX3_lay_239 : decode cX3_lay 239 = .ok (.getfield 50, 3) := by decide +kernel
theorem dX3_lay_242 : decode cX3_lay 242 = .ok (.iload_n 3, 1) := by decide +kernel
theorem dX3_lay_243 : decode cX3_lay 243 = .ok (.iconst 1, 1) := by decide +kernel
theorem dX3_lay_244 : decode cX3_lay 244 = .ok (.isub, 1) := by decide +kernel
theorem dX3_lay_245 : decode cX3_lay 245 = .ok (.laload, 1) := by decide +kernel
theorem dX3_lay_246 : decode cX3_lay 246 = .ok (.ladd, 1) := by decide +kernel
theorem dX3_lay_247 : decode cX3_lay 247 = .ok (.lastore, 1) := by decide +kernel
theorem dX3_lay_248 : decode cX3_lay 248 = .ok (.iinc 2 1, 3) := by decide +kernel
theorem dX3_lay_251 : decode cX3_lay 251 = .ok (.goto (-239), 3) := by decide +kernel
theorem dX3_lay_254 : decode cX3_lay 254 = .ok (.aload_n 0, 1) := by decide +kernel
theorem dX3_lay_255 : decode cX3_lay 255 = .ok (.getfield 76, 3) := by decide +kernel
theorem dX3_lay_258 : decode cX3_lay 258 = .ok (.ifCond .eq 17, 3) := by decide +kernel
theorem dX3_lay_261 : decode cX3_lay 261 = .ok (.aload_n 0, 1) := by decide +kernel
theorem dX3_lay_262 : decode cX3_lay 262 = .ok (.iconst 0, 1) := by decide +kernel
theorem dX3_lay_263 : decode cX3_lay 263 = .ok (.iconst 1, 1) := by decide +kernel
theorem dX3_lay_264 : decode cX3_lay 264 = .ok (.iload_n 1, 1) := by decide +kernel
theorem dX3_lay_265 : decode cX3_lay 265 = .ok (.invokevirtual 114, 3) := by decide +kernel
theorem dX3_lay_268 : decode cX3_lay 268 = .ok (.aload_n 0, 1) := by decide +kernel
theorem dX3_lay_269 : decode cX3_lay 269 = .ok (.iconst 1, 1) := by decide +kernel
theorem dX3_lay_270 : decode cX3_lay 270 = .ok (.iconst 0, 1) := by decide +kernel
theorem dX3_lay_271 : decode cX3_lay 271 = .ok (.iload_n 1, 1) := by decide +kernel
theorem dX3_lay_272 : decode cX3_lay 272 = .ok (.invokevirtual 114, 3) := by decide +kernel
theorem dX3_lay_275 : decode cX3_lay 275 = .ok (.iconst 0, 1) := by decide +kernel
theorem dX3_lay_276 : decode cX3_lay 276 = .ok (.istore_n 2, 1) := by decide +kernel
theorem dX3_lay_277 : decode cX3_lay 277 = .ok (.iload_n 2, 1) := by decide +kernel
theorem dX3_lay_278 : decode cX3_lay 278 = .ok (.iconst 2, 1) := by decide +kernel
theorem dX3_lay_279 : decode cX3_lay 279 = .ok (.if_icmp .ge 43, 3) := by decide +kernel
theorem dX3_lay_282 : decode cX3_lay 282 = .ok (.bipush 10, 2) := by decide +kernel
theorem dX3_lay_284 : decode cX3_lay 284 = .ok (.iload_n 2, 1) := by decide +kernel
theorem dX3_lay_285 : decode cX3_lay 285 = .ok (.imul, 1) := by decide +kernel
theorem dX3_lay_286 : decode cX3_lay 286 = .ok (.iload_n 1, 1) := by decide +kernel
theorem dX3_lay_287 : decode cX3_lay 287 = .ok (.iadd, 1) := by decide +kernel
theorem dX3_lay_288 : decode cX3_lay 288 = .ok (.istore_n 3, 1) := by decide +kernel
theorem dX3_lay_289 : decode cX3_lay 289 = .ok (.aload_n 0, 1) := by decide +kernel
theorem dX3_lay_290 : decode cX3_lay 290 = .ok (.getfield 46, 3) := by decide +kernel
theorem dX3_lay_293 : decode cX3_lay 293 = .ok (.iload_n 3, 1) := by decide +kernel
theorem dX3_lay_294 : decode cX3_lay 294 = .ok (.dup2, 1) := by decide +kernel
theorem dX3_lay_295 : decode cX3_lay 295 = .ok (.laload, 1) := by decide +kernel
theorem dX3_lay_296 : decode cX3_lay 296 = .ok (.aload_n 0, 1) := by decide +kernel
theorem dX3_lay_297 : decode cX3_lay 297 = .ok (.getfield 46, 3) := by decide +kernel
theorem dX3_lay_300 : decode cX3_lay 300 = .ok (.iload_n 3, 1) := by decide +kernel
theorem dX3_lay_301 : decode cX3_lay 301 = .ok (.laload, 1) := by decide +kernel
theorem dX3_lay_302 : decode cX3_lay 302 = .ok (.aload_n 0, 1) := by decide +kernel
theorem dX3_lay_303 : decode cX3_lay 303 = .ok (.getfield 25, 3) := by decide +kernel
theorem dX3_lay_306 : decode cX3_lay 306 = .ok (.iload_n 2, 1) := by decide +kernel
theorem dX3_lay_307 : decode cX3_lay 307 = .ok (.iaload, 1) := by decide +kernel
theorem dX3_lay_308 : decode cX3_lay 308 = .ok (.i2l, 1) := by decide +kernel
theorem dX3_lay_309 : decode cX3_lay 309 = .ok (.lmul, 1) := by decide +kernel
theorem dX3_lay_310 : decode cX3_lay 310 = .ok (.ldc2_w 97, 3) := by decide +kernel
theorem dX3_lay_313 : decode cX3_lay 313 = .ok (.ldiv, 1) := by decide +kernel
theorem dX3_lay_314 : decode cX3_lay 314 = .ok (.ladd, 1) := by decide +kernel
theorem dX3_lay_315 : decode cX3_lay 315 = .ok (.lastore, 1) := by decide +kernel
theorem dX3_lay_316 : decode cX3_lay 316 = .ok (.iinc 2 1, 3) := by decide +kernel
theorem dX3_lay_319 : decode cX3_lay 319 = .ok (.goto (-42), 3) := by decide +kernel
theorem dX3_lay_322 : decode cX3_lay 322 = .ok (.iinc 1 1, 3) := by decide +kernel
theorem dX3_lay_325 : decode cX3_lay 325 = .ok (.goto (-323), 3) := by decide +kernel
theorem dX3_lay_328 : decode cX3_lay 328 = .ok (.return_, 1) := by decide +kernel
theorem dX3_deferred_0 : decode cX3_deferred 0 = .ok (.aload_n 0, 1) := by decide +kernel
theorem dX3_deferred_1 : decode cX3_deferred 1 = .ok (.getfield 50, 3) := by decide +kernel
theorem dX3_deferred_4 : decode cX3_deferred 4 = .ok (.bipush 10, 2) := by decide +kernel
theorem dX3_deferred_6 : decode cX3_deferred 6 = .ok (.iload_n 1, 1) := by decide +kernel
theorem dX3_deferred_7 : decode cX3_deferred 7 = .ok (.imul, 1) := by decide +kernel
theorem dX3_deferred_8 : decode cX3_deferred 8 = .ok (.aload_n 0, 1) := by decide +kernel
theorem dX3_deferred_9 : decode cX3_deferred 9 = .ok (.getfield 85, 3) := by decide +kernel
theorem dX3_deferred_12 : decode cX3_deferred 12 = .ok (.iadd, 1) := by decide +kernel
theorem dX3_deferred_13 : decode cX3_deferred 13 = .ok (.laload, 1) := by decide +kernel
theorem dX3_deferred_14 : decode cX3_deferred 14 = .ok (.lstore_n 3, 1) := by decide +kernel
theorem dX3_deferred_15 : decode cX3_deferred 15 = .ok (.iconst 0, 1) := by decide +kernel
theorem dX3_deferred_16 : decode cX3_deferred 16 = .ok (.istore 5, 2) := by decide +kernel
theorem dX3_deferred_18 : decode cX3_deferred 18 = .ok (.iload 5, 2) := by decide +kernel
theorem dX3_deferred_20 : decode cX3_deferred 20 = .ok (.iload_n 2, 1) := by decide +kernel
theorem dX3_deferred_21 : decode cX3_deferred 21 = .ok (.if_icmp .ge 59, 3) := by decide +kernel
theorem dX3_deferred_24 : decode cX3_deferred 24 = .ok (.aload_n 0, 1) := by decide +kernel
theorem dX3_deferred_25 : decode cX3_deferred 25 = .ok (.getfield 28, 3) := by decide +kernel
theorem dX3_deferred_28 : decode cX3_deferred 28 = .ok (.iload 5, 2) := by decide +kernel
theorem dX3_deferred_30 : decode cX3_deferred 30 = .ok (.iaload, 1) := by decide +kernel
theorem dX3_deferred_31 : decode cX3_deferred 31 = .ok (.iload_n 1, 1) := by decide +kernel
theorem dX3_deferred_32 : decode cX3_deferred 32 = .ok (.if_icmp .ne 42, 3) := by decide +kernel
theorem dX3_deferred_35 : decode cX3_deferred 35 = .ok (.aload_n 0, 1) := by decide +kernel
theorem dX3_deferred_36 : decode cX3_deferred 36 = .ok (.getfield 31, 3) := by decide +kernel
theorem dX3_deferred_39 : decode cX3_deferred 39 = .ok (.iload 5, 2) := by decide +kernel
theorem dX3_deferred_41 : decode cX3_deferred 41 = .ok (.iaload, 1) := by decide +kernel
theorem dX3_deferred_42 : decode cX3_deferred 42 = .ok (.iconst 2, 1) := by decide +kernel
theorem dX3_deferred_43 : decode cX3_deferred 43 = .ok (.if_icmp .ne 31, 3) := by decide +kernel
theorem dX3_deferred_46 : decode cX3_deferred 46 = .ok (.lload_n 3, 1) := by decide +kernel
theorem dX3_deferred_47 : decode cX3_deferred 47 = .ok (.lload_n 3, 1) := by decide +kernel
theorem dX3_deferred_48 : decode cX3_deferred 48 = .ok (.aload_n 0, 1) := by decide +kernel
theorem dX3_deferred_49 : decode cX3_deferred 49 = .ok (.getfield 34, 3) := by decide +kernel
theorem dX3_deferred_52 : decode cX3_deferred 52 = .ok (.iload 5, 2) := by decide +kernel
theorem dX3_deferred_54 : decode cX3_deferred 54 = .ok (.iaload, 1) := by decide +kernel
theorem dX3_deferred_55 : decode cX3_deferred 55 = .ok (.i2l, 1) := by decide +kernel
theorem dX3_deferred_56 : decode cX3_deferred 56 = .ok (.lcmp, 1) := by decide +kernel
theorem dX3_deferred_57 : decode cX3_deferred 57 = .ok (.ifCond .ge 7, 3) := by decide +kernel
theorem dX3_deferred_60 : decode cX3_deferred 60 = .ok (.lload_n 3, 1) := by decide +kernel
theorem dX3_deferred_61 : decode cX3_deferred 61 = .ok (.goto 11, 3) := by decide +kernel
theorem dX3_deferred_64 : decode cX3_deferred 64 = .ok (.aload_n 0, 1) := by decide +kernel
theorem dX3_deferred_65 : decode cX3_deferred 65 = .ok (.getfield 34, 3) := by decide +kernel
theorem dX3_deferred_68 : decode cX3_deferred 68 = .ok (.iload 5, 2) := by decide +kernel
theorem dX3_deferred_70 : decode cX3_deferred 70 = .ok (.iaload, 1) := by decide +kernel
theorem dX3_deferred_71 : decode cX3_deferred 71 = .ok (.i2l, 1) := by decide +kernel
theorem dX3_deferred_72 : decode cX3_deferred 72 = .ok (.lsub, 1) := by decide +kernel
theorem dX3_deferred_73 : decode cX3_deferred 73 = .ok (.lstore_n 3, 1) := by decide +kernel
theorem dX3_deferred_74 : decode cX3_deferred 74 = .ok (.iinc 5 1, 3) := by decide +kernel
theorem dX3_deferred_77 : decode cX3_deferred 77 = .ok (.goto (-59), 3) := by decide +kernel
theorem dX3_deferred_80 : decode cX3_deferred 80 = .ok (.lload_n 3, 1) := by decide +kernel
theorem dX3_deferred_81 : decode cX3_deferred 81 = .ok (.lreturn, 1) := by decide +kernel
set_option maxRecDepth 20000 in
theorem ggX3_sumOf_X3_upTo : GoodIn wsX3_sumOf wsX3_upTo := goodIn_r _ [10, 1, 2, 5, 11, 12, 13, 14, 15, 9, 16, 17, 18, 19, 20, 21, 22, 23, 24, 25, 26, 27, 28, 29, 30, 31, 56, 57, 58, 59, 60, 61, 62, 63, 64, 65, 66, 67, 68, 69, 70, 71, 72, 73, 74] (by decide +kernel) (by decide +kernel)
set_option maxRecDepth 20000 in
theorem gX3_sumOf_X3_upTo : GoodIn wsX3_sumOf (wsV RX3 108 RX3 yX3_upTo wsX3_upTo) := goodIn_app (goodIn_of _ (by decide +kernel)) ggX3_sumOf_X3_upTo
set_option maxRecDepth 20000 in
theorem ggX3_sumOf_X3_lay : GoodIn wsX3_sumOf wsX3_lay := goodIn_r _ [35, 3, 36, 37, 38, 26, 4, 1, 2, 39, 40, 41, 42, 6, 7, 8, 9, 10, 5, 11, 12, 13, 14, 15, 16, 17, 18, 19, 20, 21, 22, 23, 24, 25, 27, 28, 29, 30, 31, 43, 44, 45, 46, 47, 48, 49, 50, 51, 56, 57, 58, 59, 60, 61, 62, 63, 64, 65, 66, 67, 68, 69, 70, 71, 72, 73, 74] (by decide +kernel) (by decide +kernel)
set_option maxRecDepth 20000 in
theorem gX3_sumOf_X3_lay : GoodIn wsX3_sumOf (wsV RX3 118 RX3 yX3_lay wsX3_lay) := goodIn_app (goodIn_of _ (by decide +kernel)) ggX3_sumOf_X3_lay
set_option maxRecDepth 20000 in
theorem ggX3_sumOf_X3_deferred : GoodIn wsX3_sumOf wsX3_deferred := goodIn_r _ [55, 40, 3, 1, 2, 5, 56, 57, 58, 59, 60, 61, 62, 63, 64, 65, 66, 67, 68, 69, 70, 71, 72, 73, 74] (by decide +kernel) (by decide +kernel)
set_option maxRecDepth 20000 in
theorem gX3_sumOf_X3_deferred : GoodIn wsX3_sumOf (wsV RX3 121 RX3 yX3_deferred wsX3_deferred) := goodIn_app (goodIn_of _ (by decide +kernel)) ggX3_sumOf_X3_deferred
set_option maxRecDepth 20000 in
theorem ggX3_sumOf_X3_parted : GoodIn wsX3_sumOf wsX3_parted := goodIn_r _ [30, 5, 12, 31, 26, 56, 57, 58, 59, 60, 61, 62, 63, 64, 65, 66, 67, 68, 69, 70, 71, 72, 73, 74] (by decide +kernel) (by decide +kernel)
set_option maxRecDepth 20000 in
theorem gX3_sumOf_X3_parted : GoodIn wsX3_sumOf (wsV RX3 102 RX3 yX3_parted wsX3_parted) := goodIn_app (goodIn_of _ (by decide +kernel)) ggX3_sumOf_X3_parted
theorem dX3_sumOf_0 : decode cX3_sumOf 0 = .ok (.aload_n 0, 1) := by decide +kernel
theorem dX3_sumOf_1 : decode cX3_sumOf 1 = .ok (.getfield 28, 3) := by decide +kernel
theorem dX3_sumOf_4 : decode cX3_sumOf 4 = .ok (.iload_n 1, 1) := by decide +kernel
theorem dX3_sumOf_5 : decode cX3_sumOf 5 = .ok (.iaload, 1) := by decide +kernel
theorem dX3_sumOf_6 : decode cX3_sumOf 6 = .ok (.istore_n 2, 1) := by decide +kernel
theorem dX3_sumOf_7 : decode cX3_sumOf 7 = .ok (.aload_n 0, 1) := by decide +kernel
theorem dX3_sumOf_8 : decode cX3_sumOf 8 = .ok (.getfield 31, 3) := by decide +kernel
theorem dX3_sumOf_11 : decode cX3_sumOf 11 = .ok (.iload_n 1, 1) := by decide +kernel
theorem dX3_sumOf_12 : decode cX3_sumOf 12 = .ok (.iaload, 1) := by decide +kernel
theorem dX3_sumOf_13 : decode cX3_sumOf 13 = .ok (.ifCond .eq 13, 3) := by decide +kernel
theorem dX3_sumOf_16 : decode cX3_sumOf 16 = .ok (.aload_n 0, 1) := by decide +kernel
theorem dX3_sumOf_17 : decode cX3_sumOf 17 = .ok (.getfield 31, 3) := by decide +kernel
theorem dX3_sumOf_20 : decode cX3_sumOf 20 = .ok (.iload_n 1, 1) := by decide +kernel
theorem dX3_sumOf_21 : decode cX3_sumOf 21 = .ok (.iaload, 1) := by decide +kernel
theorem dX3_sumOf_22 : decode cX3_sumOf 22 = .ok (.iconst 3, 1) := by decide +kernel
theorem dX3_sumOf_23 : decode cX3_sumOf 23 = .ok (.if_icmp .ne 13, 3) := by decide +kernel
theorem dX3_sumOf_26 : decode cX3_sumOf 26 = .ok (.aload_n 0, 1) := by decide +kernel
theorem dX3_sumOf_27 : decode cX3_sumOf 27 = .ok (.iload_n 1, 1) := by decide +kernel
theorem dX3_sumOf_28 : decode cX3_sumOf 28 = .ok (.aload_n 0, 1) := by decide +kernel
theorem dX3_sumOf_29 : decode cX3_sumOf 29 = .ok (.getfield 85, 3) := by decide +kernel
theorem dX3_sumOf_32 : decode cX3_sumOf 32 = .ok (.invokevirtual 108, 3) := by decide +kernel
theorem dX3_sumOf_35 : decode cX3_sumOf 35 = .ok (.lreturn, 1) := by decide +kernel
theorem dX3_sumOf_36 : decode cX3_sumOf 36 = .ok (.aload_n 0, 1) := by decide +kernel
theorem dX3_sumOf_37 : decode cX3_sumOf 37 = .ok (.invokevirtual 118, 3) := by decide +kernel
theorem dX3_sumOf_40 : decode cX3_sumOf 40 = .ok (.aload_n 0, 1) := by decide +kernel
theorem dX3_sumOf_41 : decode cX3_sumOf 41 = .ok (.getfield 31, 3) := by decide +kernel
theorem dX3_sumOf_44 : decode cX3_sumOf 44 = .ok (.iload_n 1, 1) := by decide +kernel
theorem dX3_sumOf_45 : decode cX3_sumOf 45 = .ok (.iaload, 1) := by decide +kernel
theorem dX3_sumOf_46 : decode cX3_sumOf 46 = .ok (.iconst 1, 1) := by decide +kernel
theorem dX3_sumOf_47 : decode cX3_sumOf 47 = .ok (.if_icmp .ne 18, 3) := by decide +kernel
theorem dX3_sumOf_50 : decode cX3_sumOf 50 = .ok (.aload_n 0, 1) := by decide +kernel
theorem dX3_sumOf_51 : decode cX3_sumOf 51 = .ok (.aload_n 0, 1) := by decide +kernel
theorem dX3_sumOf_52 : decode cX3_sumOf 52 = .ok (.iload_n 2, 1) := by decide +kernel
theorem dX3_sumOf_53 : decode cX3_sumOf 53 = .ok (.aload_n 0, 1) := by decide +kernel
theorem dX3_sumOf_54 : decode cX3_sumOf 54 = .ok (.getfield 81, 3) := by decide +kernel
theorem dX3_sumOf_57 : decode cX3_sumOf 57 = .ok (.invokevirtual 121, 3) := by decide +kernel
theorem dX3_sumOf_60 : decode cX3_sumOf 60 = .ok (.iload_n 1, 1) := by decide +kernel
theorem dX3_sumOf_61 : decode cX3_sumOf 61 = .ok (.invokevirtual 102, 3) := by decide +kernel
theorem dX3_sumOf_64 : decode cX3_sumOf 64 = .ok (.lreturn, 1) := by decide +kernel
theorem dX3_sumOf_65 : decode cX3_sumOf 65 = .ok (.aload_n 0, 1) := by decide +kernel
theorem dX3_sumOf_66 : decode cX3_sumOf 66 = .ok (.iload_n 2, 1) := by decide +kernel
theorem dX3_sumOf_67 : decode cX3_sumOf 67 = .ok (.iload_n 1, 1) := by decide +kernel
theorem dX3_sumOf_68 : decode cX3_sumOf 68 = .ok (.invokevirtual 121, 3) := by decide +kernel
theorem dX3_sumOf_71 : decode cX3_sumOf 71 = .ok (.lstore_n 3, 1) := by decide +kernel
theorem dX3_sumOf_72 : decode cX3_sumOf 72 = .ok (.lload_n 3, 1) := by decide +kernel
theorem dX3_sumOf_73 : decode cX3_sumOf 73 = .ok (.aload_n 0, 1) := by decide +kernel
theorem dX3_sumOf_74 : decode cX3_sumOf 74 = .ok (.getfield 34, 3) := by decide +kernel
theorem dX3_sumOf_77 : decode cX3_sumOf 77 = .ok (.iload_n 1, 1) := by decide +kernel
theorem dX3_sumOf_78 : decode cX3_sumOf 78 = .ok (.iaload, 1) := by decide +kernel
theorem dX3_sumOf_79 : decode cX3_sumOf 79 = .ok (.i2l, 1) := by decide +kernel
theorem dX3_sumOf_80 : decode cX3_sumOf 80 = .ok (.lcmp, 1) := by decide +kernel
theorem dX3_sumOf_81 : decode cX3_sumOf 81 = .ok (.ifCond .ge 7, 3) := by decide +kernel
theorem dX3_sumOf_84 : decode cX3_sumOf 84 = .ok (.lload_n 3, 1) := by decide +kernel
theorem dX3_sumOf_85 : decode cX3_sumOf 85 = .ok (.goto 10, 3) := by decide +kernel
theorem dX3_sumOf_88 : decode cX3_sumOf 88 = .ok (.aload_n 0, 1) := by decide +kernel
theorem dX3_sumOf_89 : decode cX3_sumOf 89 = .ok (.getfield 34, 3) := by decide +kernel
theorem dX3_sumOf_92 : decode cX3_sumOf 92 = .ok (.iload_n 1, 1) := by decide +kernel
theorem dX3_sumOf_93 : decode cX3_sumOf 93 = .ok (.iaload, 1) := by decide +kernel
theorem dX3_sumOf_94 : decode cX3_sumOf 94 = .ok (.i2l, 1) := by decide +kernel
theorem dX3_sumOf_95 : decode cX3_sumOf 95 = .ok (.lreturn, 1) := by decide +kernel
set_option maxRecDepth 20000 in
theorem ggX3_isSharer_X3_in : GoodIn wsX3_isSharer wsX3_in := goodIn_r _ [6] (by decide +kernel) (by decide +kernel)
set_option maxRecDepth 20000 in
theorem gX3_isSharer_X3_in : GoodIn wsX3_isSharer (va_wsS RX3 60 yX3_in wsX3_in) := goodIn_app (goodIn_of _ (by decide +kernel)) ggX3_isSharer_X3_in
theorem dX3_isSharer_0 : decode cX3_isSharer 0 = .ok (.aload_n 0, 1) := by decide +kernel
theorem dX3_isSharer_1 : decode cX3_isSharer 1 = .ok (.iload_n 1, 1) := by decide +kernel
theorem dX3_isSharer_2 : decode cX3_isSharer 2 = .ok (.iconst 0, 1) := by decide +kernel
theorem dX3_isSharer_3 : decode cX3_isSharer 3 = .ok (.aload_n 0, 1) := by decide +kernel
theorem dX3_isSharer_4 : decode cX3_isSharer 4 = .ok (.getfield 81, 3) := by decide +kernel
theorem dX3_isSharer_7 : decode cX3_isSharer 7 = .ok (.iconst 1, 1) := by decide +kernel
theorem dX3_isSharer_8 : decode cX3_isSharer 8 = .ok (.isub, 1) := by decide +kernel
theorem dX3_isSharer_9 : decode cX3_isSharer 9 = .ok (.invokestatic 60, 3) := by decide +kernel
theorem dX3_isSharer_12 : decode cX3_isSharer 12 = .ok (.ifCond .eq 7, 3) := by decide +kernel
theorem dX3_isSharer_15 : decode cX3_isSharer 15 = .ok (.iconst 0, 1) := by decide +kernel
theorem dX3_isSharer_16 : decode cX3_isSharer 16 = .ok (.goto 4, 3) := by decide +kernel
theorem dX3_isSharer_19 : decode cX3_isSharer 19 = .ok (.iconst 1, 1) := by decide +kernel
theorem dX3_isSharer_20 : decode cX3_isSharer 20 = .ok (.putfield 56, 3) := by decide +kernel
theorem dX3_isSharer_23 : decode cX3_isSharer 23 = .ok (.aload_n 0, 1) := by decide +kernel
theorem dX3_isSharer_24 : decode cX3_isSharer 24 = .ok (.getfield 56, 3) := by decide +kernel
theorem dX3_isSharer_27 : decode cX3_isSharer 27 = .ok (.ifCond .ne 7, 3) := by decide +kernel
theorem dX3_isSharer_30 : decode cX3_isSharer 30 = .ok (.iconst 1, 1) := by decide +kernel
theorem dX3_isSharer_31 : decode cX3_isSharer 31 = .ok (.goto 4, 3) := by decide +kernel
theorem dX3_isSharer_34 : decode cX3_isSharer 34 = .ok (.iconst 0, 1) := by decide +kernel
theorem dX3_isSharer_35 : decode cX3_isSharer 35 = .ok (.ireturn, 1) := by decide +kernel
set_option maxRecDepth 20000 in
theorem ggX3_pay_X3_isSharer : GoodIn wsX3_pay wsX3_isSharer := goodIn_r _ [6, 7, 8, 9, 10, 5, 11, 73, 74, 75, 76, 77, 78, 79, 80, 81, 82, 83, 84, 85, 86, 87, 88, 89, 90, 91] (by decide +kernel) (by decide +kernel)
set_option maxRecDepth 20000 in
theorem gX3_pay_X3_isSharer : GoodIn wsX3_pay (wsV RX3 124 RX3 yX3_isSharer wsX3_isSharer) := goodIn_app (goodIn_of _ (by decide +kernel)) ggX3_pay_X3_isSharer
set_option maxRecDepth 20000 in
theorem ggX3_pay_X3_sumOf : GoodIn wsX3_pay wsX3_sumOf := goodIn_r _ [15, 16, 17, 18, 7, 19, 20, 21, 22, 5, 23, 24, 25, 26, 27, 28, 29, 30, 31, 32, 33, 34, 35, 36, 37, 38, 39, 40, 41, 42, 43, 44, 45, 46, 47, 48, 49, 50, 51, 52, 53, 54, 55, 56, 57, 58, 59, 60, 61, 62, 63, 64, 65, 66, 67, 68, 73, 74, 75, 76, 77, 78, 79, 80, 81, 82, 83, 84, 85, 86, 87, 88, 89, 90, 91] (by decide +kernel) (by decide +kernel)
set_option maxRecDepth 20000 in
theorem gX3_pay_X3_sumOf : GoodIn wsX3_pay (wsV RX3 127 RX3 yX3_sumOf wsX3_sumOf) := goodIn_app (goodIn_of _ (by decide +kernel)) ggX3_pay_X3_sumOf
set_option maxRecDepth 20000 in
theorem ggX3_pay_X3_fails : GoodIn wsX3_pay wsX3_fails := goodIn_r _ [72, 8, 73, 74, 75, 76, 77, 78, 79, 80, 81, 82, 83, 84, 85, 86, 87, 88, 89, 90, 91] (by decide +kernel) (by decide +kernel)
set_option maxRecDepth 20000 in
theorem gX3_pay_X3_fails : GoodIn wsX3_pay (wsV RX3 68 RX3 yX3_fails wsX3_fails) := goodIn_app (goodIn_of _ (by decide +kernel)) ggX3_pay_X3_fails
theorem dX3_pay_0 : decode cX3_pay 0 = .ok (.aload_n 0, 1) := by decide +kernel
theorem dX3_pay_1 : decode cX3_pay 1 = .ok (.iload_n 1, 1) := by decide +kernel
theorem dX3_pay_2 : decode cX3_pay 2 = .ok (.invokevirtual 124, 3) := by decide +kernel
theorem dX3_pay_5 : decode cX3_pay 5 = .ok (.ifCond .ne 5, 3) := by decide +kernel
theorem dX3_pay_8 : decode cX3_pay 8 = .ok (.iconst 0, 1) := by decide +kernel
theorem dX3_pay_9 : decode cX3_pay 9 = .ok (.ireturn, 1) := by decide +kernel
theorem dX3_pay_10 : decode cX3_pay 10 = .ok (.aload_n 0, 1) := by decide +kernel
theorem dX3_pay_11 : decode cX3_pay 11 = .ok (.iload_n 1, 1) := by decide +kernel
theorem dX3_pay_12 : decode cX3_pay 12 = .ok (.invokevirtual 127, 3) := by decide +kernel
theorem dX3_pay_15 : decode cX3_pay 15 = .ok (.l2i, 1) := by decide +kernel
theorem dX3_pay_16 : decode cX3_pay 16 = .ok (.aload_n 0, 1) := by decide +kernel
theorem dX3_pay_17 : decode cX3_pay 17 = .ok (.getfield 43, 3) := by decide +kernel
theorem dX3_pay_20 : decode cX3_pay 20 = .ok (.iload_n 1, 1) := by decide +kernel
theorem dX3_pay_21 : decode cX3_pay 21 = .ok (.iaload, 1) := by decide +kernel
theorem dX3_pay_22 : decode cX3_pay 22 = .ok (.isub, 1) := by decide +kernel
theorem dX3_pay_23 : decode cX3_pay 23 = .ok (.istore_n 2, 1) := by decide +kernel
theorem dX3_pay_24 : decode cX3_pay 24 = .ok (.iload_n 2, 1) := by decide +kernel
theorem dX3_pay_25 : decode cX3_pay 25 = .ok (.ifCond .gt 9, 3) := by decide +kernel
theorem dX3_pay_28 : decode cX3_pay 28 = .ok (.aload_n 0, 1) := by decide +kernel
theorem dX3_pay_29 : decode cX3_pay 29 = .ok (.iconst 2, 1) := by decide +kernel
theorem dX3_pay_30 : decode cX3_pay 30 = .ok (.invokevirtual 68, 3) := by decide +kernel
theorem dX3_pay_33 : decode cX3_pay 33 = .ok (.ireturn, 1) := by decide +kernel
theorem dX3_pay_34 : decode cX3_pay 34 = .ok (.aload_n 0, 1) := by decide +kernel
theorem dX3_pay_35 : decode cX3_pay 35 = .ok (.getfield 43, 3) := by decide +kernel
theorem dX3_pay_38 : decode cX3_pay 38 = .ok (.iload_n 1, 1) := by decide +kernel
theorem dX3_pay_39 : decode cX3_pay 39 = .ok (.dup2, 1) := by decide +kernel
theorem dX3_pay_40 : decode cX3_pay 40 = .ok (.iaload, 1) := by decide +kernel
theorem dX3_pay_41 : decode cX3_pay 41 = .ok (.iload_n 2, 1) := by decide +kernel
theorem dX3_pay_42 : decode cX3_pay 42 = .ok (.iadd, 1) := by decide +kernel
theorem dX3_pay_43 : decode cX3_pay 43 = .ok (.iastore, 1) := by decide +kernel
theorem dX3_pay_44 : decode cX3_pay 44 = .ok (.iload_n 2, 1) := by decide +kernel
theorem dX3_pay_45 : decode cX3_pay 45 = .ok (.ireturn, 1) := by decide +kernel
theorem dX3_year_0 : decode cX3_year 0 = .ok (.aload_n 0, 1) := by decide +kernel
theorem dX3_year_1 : decode cX3_year 1 = .ok (.iconst 0, 1) := by decide +kernel
theorem dX3_year_2 : decode cX3_year 2 = .ok (.putfield 56, 3) := by decide +kernel
theorem dX3_year_5 : decode cX3_year 5 = .ok (.aload_n 0, 1) := by decide +kernel
theorem dX3_year_6 : decode cX3_year 6 = .ok (.getfield 85, 3) := by decide +kernel
theorem dX3_year_9 : decode cX3_year 9 = .ok (.ireturn, 1) := by decide +kernel
set_option maxRecDepth 20000 in
theorem ggX3_gross_X3_isPicture : GoodIn wsX3_gross wsX3_isPicture := goodIn_r _ [6, 7, 8, 5, 9] (by decide +kernel) (by decide +kernel)
set_option maxRecDepth 20000 in
theorem gX3_gross_X3_isPicture : GoodIn wsX3_gross (va_wsS RX3 64 yX3_isPicture wsX3_isPicture) := goodIn_app (goodIn_of _ (by decide +kernel)) ggX3_gross_X3_isPicture
set_option maxRecDepth 20000 in
theorem ggX3_gross_X3_fails : GoodIn wsX3_gross wsX3_fails := goodIn_r _ [13, 1, 22, 23, 24, 25, 26, 27, 28, 29, 30, 31, 32, 33, 34, 35, 36, 37, 38, 39, 40] (by decide +kernel) (by decide +kernel)
set_option maxRecDepth 20000 in
theorem gX3_gross_X3_fails : GoodIn wsX3_gross (wsV RX3 68 RX3 yX3_fails wsX3_fails) := goodIn_app (goodIn_of _ (by decide +kernel)) ggX3_gross_X3_fails
set_option maxRecDepth 20000 in
theorem ggX3_gross_X3_grossOf : GoodIn wsX3_gross wsX3_grossOf := goodIn_r _ [17, 18, 19, 20, 5, 21, 22, 23, 24, 25, 26, 27, 28, 29, 30, 31, 32, 33, 34, 35, 36, 37, 38, 39, 40] (by decide +kernel) (by decide +kernel)
set_option maxRecDepth 20000 in
theorem gX3_gross_X3_grossOf : GoodIn wsX3_gross (wsV RX3 93 RX3 yX3_grossOf wsX3_grossOf) := goodIn_app (goodIn_of _ (by decide +kernel)) ggX3_gross_X3_grossOf
theorem dX3_gross_0 : decode cX3_gross 0 = .ok (.aload_n 0, 1) := by decide +kernel
theorem dX3_gross_1 : decode cX3_gross 1 = .ok (.iconst 0, 1) := by decide +kernel
theorem dX3_gross_2 : decode cX3_gross 2 = .ok (.putfield 56, 3) := by decide +kernel
theorem dX3_gross_5 : decode cX3_gross 5 = .ok (.iload_n 1, 1) := by decide +kernel
theorem dX3_gross_6 : decode cX3_gross 6 = .ok (.invokestatic 64, 3) := by decide +kernel
theorem dX3_gross_9 : decode cX3_gross 9 = .ok (.ifCond .ne 9, 3) := by decide +kernel
theorem dX3_gross_12 : decode cX3_gross 12 = .ok (.aload_n 0, 1) := by decide +kernel
theorem dX3_gross_13 : decode cX3_gross 13 = .ok (.iconst 1, 1) := by decide +kernel
theorem dX3_gross_14 : decode cX3_gross 14 = .ok (.invokevirtual 68, 3) := by decide +kernel
theorem dX3_gross_17 : decode cX3_gross 17 = .ok (.ireturn, 1) := by decide +kernel
theorem dX3_gross_18 : decode cX3_gross 18 = .ok (.lconst 0, 1) := by decide +kernel
theorem dX3_gross_19 : decode cX3_gross 19 = .ok (.lstore_n 2, 1) := by decide +kernel
theorem dX3_gross_20 : decode cX3_gross 20 = .ok (.iconst 0, 1) := by decide +kernel
theorem dX3_gross_21 : decode cX3_gross 21 = .ok (.istore 4, 2) := by decide +kernel
theorem dX3_gross_23 : decode cX3_gross 23 = .ok (.iload 4, 2) := by decide +kernel
theorem dX3_gross_25 : decode cX3_gross 25 = .ok (.aload_n 0, 1) := by decide +kernel
theorem dX3_gross_26 : decode cX3_gross 26 = .ok (.getfield 85, 3) := by decide +kernel
theorem dX3_gross_29 : decode cX3_gross 29 = .ok (.if_icmp .gt 19, 3) := by decide +kernel
theorem dX3_gross_32 : decode cX3_gross 32 = .ok (.lload_n 2, 1) := by decide +kernel
theorem dX3_gross_33 : decode cX3_gross 33 = .ok (.aload_n 0, 1) := by decide +kernel
