theorem wsL_law_x0 : ∀ w ∈ (vx_atS RX2 152 "java/lang/IndexOutOfBoundsException" ["java/lang/RuntimeException", "java/lang/Exception"]).filter goodWord, w ∈ lw_tbl := by decide +kernel
theorem wsL_law_x1 : ∀ w ∈ (vx_atS RX2 159 "java/lang/IllegalArgumentException" ["java/lang/RuntimeException", "java/lang/Exception"]).filter goodWord, w ∈ lw_tbl := by decide +kernel
theorem wsL_law_x2 : ∀ w ∈ (vx_atS RX2 105 "java/lang/IllegalStateException" ["java/lang/RuntimeException", "java/lang/Exception"]).filter goodWord, w ∈ lw_tbl := by decide +kernel
theorem wsL_law_in : ∀ w ∈ wsL_law, w ∈ lw_tbl := fun w h => (List.mem_append.mp h).elim (fun h => (List.mem_append.mp h).elim (fun h => (List.mem_append.mp h).elim (fun h => wsL_law_in0 w h) (fun h => wsL_law_x0 w h)) (fun h => wsL_law_x1 w h)) (fun h => wsL_law_x2 w h)
theorem inlX0 : ∀ w ∈ wsX00, w ∈ wsL_law := fun _ h => List.mem_append_left _ (List.mem_append_left _ (List.mem_append_left _ (List.mem_append_left _ (List.mem_append_left _ (List.mem_append_left _ (List.mem_append_right _ h))))))
theorem inX0 : ∀ w ∈ wsX00, w ∈ lw_tbl := fun w h => wsL_law_in w (inlX0 w h)
theorem inlX1 : ∀ w ∈ wsX10, w ∈ wsL_law := fun _ h => List.mem_append_left _ (List.mem_append_left _ (List.mem_append_left _ (List.mem_append_left _ (List.mem_append_right _ h))))
theorem inX1 : ∀ w ∈ wsX10, w ∈ lw_tbl := fun w h => wsL_law_in w (inlX1 w h)
theorem inlX2 : ∀ w ∈ wsX20, w ∈ wsL_law := fun _ h => List.mem_append_left _ (List.mem_append_left _ (List.mem_append_left _ (List.mem_append_left _ (List.mem_append_left _ (List.mem_append_left _ (List.mem_append_left _ (List.mem_append_right _ h)))))))
theorem inX2 : ∀ w ∈ wsX20, w ∈ lw_tbl := fun w h => wsL_law_in w (inlX2 w h)
theorem inX3 : ∀ w ∈ wsX30, w ∈ lw_tbl := by decide +kernel
theorem inJx145de : ∀ w ∈ wsJx145de0, w ∈ lw_tbl := by decide +kernel
theorem inJx8e188 : ∀ w ∈ wsJx8e1880, w ∈ lw_tbl := by decide +kernel
theorem inJxab1ab : ∀ w ∈ wsJxab1ab0, w ∈ lw_tbl := by decide +kernel
theorem inJ9 : ∀ w ∈ wsJ90, w ∈ lw_tbl := by decide +kernel
theorem inJ0 : ∀ w ∈ wsJ00, w ∈ lw_tbl := by decide +kernel
theorem inJ10 : ∀ w ∈ wsJ100, w ∈ lw_tbl := by decide +kernel
theorem inJxa1e45 : ∀ w ∈ wsJxa1e450, w ∈ lw_tbl := by decide +kernel
theorem inJxc12de : ∀ w ∈ wsJxc12de0, w ∈ lw_tbl := by decide +kernel
theorem inlJx4a65c : ∀ w ∈ wsJx4a65c0, w ∈ wsL_law := fun _ h => List.mem_append_left _ (List.mem_append_left _ (List.mem_append_left _ (List.mem_append_left _ (List.mem_append_left _ (List.mem_append_right _ h)))))
theorem inJx4a65c : ∀ w ∈ wsJx4a65c0, w ∈ lw_tbl := fun w h => wsL_law_in w (inlJx4a65c w h)
theorem inJ7 : ∀ w ∈ wsJ70, w ∈ lw_tbl := by decide +kernel
theorem inJx5ef63 : ∀ w ∈ wsJx5ef630, w ∈ lw_tbl := by decide +kernel
theorem inJxbd725 : ∀ w ∈ wsJxbd7250, w ∈ lw_tbl := by decide +kernel
theorem inJ15 : ∀ w ∈ wsJ150, w ∈ lw_tbl := by decide +kernel
theorem inJxf0a74 : ∀ w ∈ wsJxf0a740, w ∈ lw_tbl := by decide +kernel
theorem inJxa66e6 : ∀ w ∈ wsJxa66e60, w ∈ lw_tbl := by decide +kernel
theorem inJ8 : ∀ w ∈ wsJ80, w ∈ lw_tbl := by decide +kernel
theorem inJ3 : ∀ w ∈ wsJ30, w ∈ lw_tbl := by decide +kernel
set_option maxRecDepth 20000 in
theorem ggX0_init_Jx4a65c_init_da8c8 : GoodIn wsX0_init wsJx4a65c_init_da8c8 := goodIn_r _ [18, 19, 20, 21, 22, 23, 24, 25, 26, 27, 28, 29, 30, 2, 3, 46, 47, 48] (by decide +kernel) (by decide +kernel)
set_option maxRecDepth 20000 in
theorem gX0_init_Jx4a65c_init_da8c8 : GoodIn wsX0_init (wsJx4a65c_init_da8c8) := ggX0_init_Jx4a65c_init_da8c8
theorem dX0_init_0 : decode cX0_init 0 = .ok (.aload_n 0, 1) := by decide +kernel
theorem dX0_init_1 : decode cX0_init 1 = .ok (.invokespecial 3, 3) := by decide +kernel
theorem dX0_init_4 : decode cX0_init 4 = .ok (.aload_n 0, 1) := by decide +kernel
theorem dX0_init_5 : decode cX0_init 5 = .ok (.bipush 10, 2) := by decide +kernel
theorem dX0_init_7 : decode cX0_init 7 = .ok (.iconst 4, 1) := by decide +kernel
theorem dX0_init_8 : decode cX0_init 8 = .ok (.multianewarray 9 2, 4) := by decide +kernel
theorem dX0_init_12 : decode cX0_init 12 = .ok (.putfield 11, 3) := by decide +kernel
theorem dX0_init_15 : decode cX0_init 15 = .ok (.aload_n 0, 1) := by decide +kernel
theorem dX0_init_16 : decode cX0_init 16 = .ok (.bipush 10, 2) := by decide +kernel
theorem dX0_init_18 : decode cX0_init 18 = .ok (.newarray .int, 2) := by decide +kernel
theorem dX0_init_20 : decode cX0_init 20 = .ok (.putfield 16, 3) := by decide +kernel
theorem dX0_init_23 : decode cX0_init 23 = .ok (.aload_n 0, 1) := by decide +kernel
theorem dX0_init_24 : decode cX0_init 24 = .ok (.iconst 4, 1) := by decide +kernel
theorem dX0_init_25 : decode cX0_init 25 = .ok (.newarray .int, 2) := by decide +kernel
theorem dX0_init_27 : decode cX0_init 27 = .ok (.putfield 20, 3) := by decide +kernel
theorem dX0_init_30 : decode cX0_init 30 = .ok (.aload_n 0, 1) := by decide +kernel
theorem dX0_init_31 : decode cX0_init 31 = .ok (.new 23, 3) := by decide +kernel
theorem dX0_init_34 : decode cX0_init 34 = .ok (.dup, 1) := by decide +kernel
theorem dX0_init_35 : decode cX0_init 35 = .ok (.invokespecial 25, 3) := by decide +kernel
theorem dX0_init_38 : decode cX0_init 38 = .ok (.putfield 26, 3) := by decide +kernel
theorem dX0_init_41 : decode cX0_init 41 = .ok (.aload_n 0, 1) := by decide +kernel
theorem dX0_init_42 : decode cX0_init 42 = .ok (.bipush 10, 2) := by decide +kernel
theorem dX0_init_44 : decode cX0_init 44 = .ok (.newarray .long, 2) := by decide +kernel
theorem dX0_init_46 : decode cX0_init 46 = .ok (.putfield 30, 3) := by decide +kernel
theorem dX0_init_49 : decode cX0_init 49 = .ok (.aload_n 0, 1) := by decide +kernel
theorem dX0_init_50 : decode cX0_init 50 = .ok (.bipush 10, 2) := by decide +kernel
theorem dX0_init_52 : decode cX0_init 52 = .ok (.newarray .long, 2) := by decide +kernel
theorem dX0_init_54 : decode cX0_init 54 = .ok (.putfield 34, 3) := by decide +kernel
theorem dX0_init_57 : decode cX0_init 57 = .ok (.return_, 1) := by decide +kernel
set_option maxRecDepth 20000 in
theorem ggX0_netRatesGiven_Jx4a65c_size_8abf5 : GoodIn wsX0_netRatesGiven wsJx4a65c_size_8abf5 := goodIn_r _ [14, 15, 55, 56, 57] (by decide +kernel) (by decide +kernel)
set_option maxRecDepth 20000 in
theorem gX0_netRatesGiven_Jx4a65c_size_8abf5 : GoodIn wsX0_netRatesGiven (wsV RX0 37 RJx4a65c yJx4a65c_size_8abf5 wsJx4a65c_size_8abf5) := goodIn_app (goodIn_of _ (by decide +kernel)) ggX0_netRatesGiven_Jx4a65c_size_8abf5
set_option maxRecDepth 20000 in
theorem ggX0_netRatesGiven_Jx4a65c_get_915e3 : GoodIn wsX0_netRatesGiven wsJx4a65c_get_915e3 := goodIn_r _ [19, 15, 20, 21, 22, 23, 24, 25, 26, 27, 28, 29, 30, 13, 31, 32, 55, 56, 57] (by decide +kernel) (by decide +kernel)
set_option maxRecDepth 20000 in
theorem gX0_netRatesGiven_Jx4a65c_get_915e3 : GoodIn wsX0_netRatesGiven (wsV RX0 41 RJx4a65c yJx4a65c_get_915e3 wsJx4a65c_get_915e3) := goodIn_app (goodIn_of _ (by decide +kernel)) ggX0_netRatesGiven_Jx4a65c_get_915e3
theorem dX0_netRatesGiven_0 : decode cX0_netRatesGiven 0 = .ok (.iconst 0, 1) := by decide +kernel
theorem dX0_netRatesGiven_1 : decode cX0_netRatesGiven 1 = .ok (.istore_n 1, 1) := by decide +kernel
theorem dX0_netRatesGiven_2 : decode cX0_netRatesGiven 2 = .ok (.iconst 0, 1) := by decide +kernel
theorem dX0_netRatesGiven_3 : decode cX0_netRatesGiven 3 = .ok (.istore_n 2, 1) := by decide +kernel
theorem dX0_netRatesGiven_4 : decode cX0_netRatesGiven 4 = .ok (.iload_n 2, 1) := by decide +kernel
theorem dX0_netRatesGiven_5 : decode cX0_netRatesGiven 5 = .ok (.aload_n 0, 1) := by decide +kernel
theorem dX0_netRatesGiven_6 : decode cX0_netRatesGiven 6 = .ok (.getfield 26, 3) := by decide +kernel
theorem dX0_netRatesGiven_9 : decode cX0_netRatesGiven 9 = .ok (.invokevirtual 37, 3) := by decide +kernel
theorem dX0_netRatesGiven_12 : decode cX0_netRatesGiven 12 = .ok (.if_icmp .ge 43, 3) := by decide +kernel
theorem dX0_netRatesGiven_15 : decode cX0_netRatesGiven 15 = .ok (.aload_n 0, 1) := by decide +kernel
theorem dX0_netRatesGiven_16 : decode cX0_netRatesGiven 16 = .ok (.getfield 26, 3) := by decide +kernel
theorem dX0_netRatesGiven_19 : decode cX0_netRatesGiven 19 = .ok (.iload_n 2, 1) := by decide +kernel
theorem dX0_netRatesGiven_20 : decode cX0_netRatesGiven 20 = .ok (.invokevirtual 41, 3) := by decide +kernel
theorem dX0_netRatesGiven_23 : decode cX0_netRatesGiven 23 = .ok (.checkcast 45, 3) := by decide +kernel
theorem dX0_netRatesGiven_26 : decode cX0_netRatesGiven 26 = .ok (.astore_n 3, 1) := by decide +kernel
theorem dX0_netRatesGiven_27 : decode cX0_netRatesGiven 27 = .ok (.aload_n 3, 1) := by decide +kernel
theorem dX0_netRatesGiven_28 : decode cX0_netRatesGiven 28 = .ok (.getfield 47, 3) := by decide +kernel
theorem dX0_netRatesGiven_31 : decode cX0_netRatesGiven 31 = .ok (.iconst 1, 1) := by decide +kernel
theorem dX0_netRatesGiven_32 : decode cX0_netRatesGiven 32 = .ok (.if_icmp .ne 17, 3) := by decide +kernel
theorem dX0_netRatesGiven_35 : decode cX0_netRatesGiven 35 = .ok (.iload_n 1, 1) := by decide +kernel
theorem dX0_netRatesGiven_36 : decode cX0_netRatesGiven 36 = .ok (.aload_n 3, 1) := by decide +kernel
theorem dX0_netRatesGiven_37 : decode cX0_netRatesGiven 37 = .ok (.getfield 51, 3) := by decide +kernel
theorem dX0_netRatesGiven_40 : decode cX0_netRatesGiven 40 = .ok (.aload_n 3, 1) := by decide +kernel
theorem dX0_netRatesGiven_41 : decode cX0_netRatesGiven 41 = .ok (.getfield 54, 3) := by decide +kernel
theorem dX0_netRatesGiven_44 : decode cX0_netRatesGiven 44 = .ok (.invokestatic 57, 3) := by decide +kernel
theorem dX0_netRatesGiven_47 : decode cX0_netRatesGiven 47 = .ok (.iadd, 1) := by decide +kernel
theorem dX0_netRatesGiven_48 : decode cX0_netRatesGiven 48 = .ok (.istore_n 1, 1) := by decide +kernel
theorem dX0_netRatesGiven_49 : decode cX0_netRatesGiven 49 = .ok (.iinc 2 1, 3) := by decide +kernel
theorem dX0_netRatesGiven_52 : decode cX0_netRatesGiven 52 = .ok (.goto (-48), 3) := by decide +kernel
theorem dX0_netRatesGiven_55 : decode cX0_netRatesGiven 55 = .ok (.iload_n 1, 1) := by decide +kernel
theorem dX0_netRatesGiven_56 : decode cX0_netRatesGiven 56 = .ok (.ireturn, 1) := by decide +kernel
theorem dX0_startBooks_0 : decode cX0_startBooks 0 = .ok (.aload_n 0, 1) := by decide +kernel
theorem dX0_startBooks_1 : decode cX0_startBooks 1 = .ok (.lconst 0, 1) := by decide +kernel
theorem dX0_startBooks_2 : decode cX0_startBooks 2 = .ok (.putfield 63, 3) := by decide +kernel
theorem dX0_startBooks_5 : decode cX0_startBooks 5 = .ok (.aload_n 0, 1) := by decide +kernel
theorem dX0_startBooks_6 : decode cX0_startBooks 6 = .ok (.lconst 0, 1) := by decide +kernel
theorem dX0_startBooks_7 : decode cX0_startBooks 7 = .ok (.putfield 67, 3) := by decide +kernel
theorem dX0_startBooks_10 : decode cX0_startBooks 10 = .ok (.aload_n 0, 1) := by decide +kernel
theorem dX0_startBooks_11 : decode cX0_startBooks 11 = .ok (.lconst 0, 1) := by decide +kernel
theorem dX0_startBooks_12 : decode cX0_startBooks 12 = .ok (.putfield 70, 3) := by decide +kernel
theorem dX0_startBooks_15 : decode cX0_startBooks 15 = .ok (.aload_n 0, 1) := by decide +kernel
theorem dX0_startBooks_16 : decode cX0_startBooks 16 = .ok (.lconst 0, 1) := by decide +kernel
theorem dX0_startBooks_17 : decode cX0_startBooks 17 = .ok (.putfield 73, 3) := by decide +kernel
theorem dX0_startBooks_20 : decode cX0_startBooks 20 = .ok (.aload_n 0, 1) := by decide +kernel
theorem dX0_startBooks_21 : decode cX0_startBooks 21 = .ok (.lconst 0, 1) := by decide +kernel
theorem dX0_startBooks_22 : decode cX0_startBooks 22 = .ok (.putfield 76, 3) := by decide +kernel
theorem dX0_startBooks_25 : decode cX0_startBooks 25 = .ok (.aload_n 0, 1) := by decide +kernel
theorem dX0_startBooks_26 : decode cX0_startBooks 26 = .ok (.lconst 0, 1) := by decide +kernel
theorem dX0_startBooks_27 : decode cX0_startBooks 27 = .ok (.putfield 79, 3) := by decide +kernel
theorem dX0_startBooks_30 : decode cX0_startBooks 30 = .ok (.return_, 1) := by decide +kernel
set_option maxRecDepth 20000 in
theorem ggX0_recoup_X0_grossIn : GoodIn wsX0_recoup wsX0_grossIn := goodIn_r _ [14, 15, 73, 74, 75, 76, 77, 78, 79, 80, 81, 82, 83, 84, 85, 86, 87] (by decide +kernel) (by decide +kernel)
set_option maxRecDepth 20000 in
theorem gX0_recoup_X0_grossIn : GoodIn wsX0_recoup (wsV RX0 82 RX0 yX0_grossIn wsX0_grossIn) := goodIn_app (goodIn_of _ (by decide +kernel)) ggX0_recoup_X0_grossIn
set_option maxRecDepth 20000 in
theorem ggX0_recoup_X2_part : GoodIn wsX0_recoup wsX2_part := goodIn_r _ [18, 19] (by decide +kernel) (by decide +kernel)
set_option maxRecDepth 20000 in
theorem gX0_recoup_X2_part_n89 : GoodIn wsX0_recoup (wsX2_part) := ggX0_recoup_X2_part
set_option maxRecDepth 20000 in
theorem ggX0_recoup_X0_feesIn : GoodIn wsX0_recoup wsX0_feesIn := goodIn_r _ [23, 15, 24, 16, 17, 18, 19, 73, 74, 75, 76, 77, 78, 79, 80, 81, 82, 83, 84, 85, 86, 87] (by decide +kernel) (by decide +kernel)
set_option maxRecDepth 20000 in
theorem gX0_recoup_X0_feesIn : GoodIn wsX0_recoup (wsV RX0 93 RX0 yX0_feesIn wsX0_feesIn) := goodIn_app (goodIn_of _ (by decide +kernel)) ggX0_recoup_X0_feesIn
set_option maxRecDepth 20000 in
theorem ggX0_recoup_X0_sharesThatAreCosts : GoodIn wsX0_recoup wsX0_sharesThatAreCosts := goodIn_r _ [28, 29, 30, 31, 3, 2, 32, 33, 34, 35, 36, 37, 38, 39, 40, 41, 42, 43, 44, 45, 46, 47, 48, 49, 50, 51, 52, 53, 54, 55, 56, 57, 58, 59, 60, 61, 62, 63, 64, 65, 66, 67, 68, 69, 70, 71, 72, 73, 74, 75, 76, 77, 78, 79, 80, 81, 82, 83, 84, 85, 86, 87, 88, 89, 90, 91, 92, 93, 94, 95, 96, 97] (by decide +kernel) (by decide +kernel)
set_option maxRecDepth 20000 in
theorem gX0_recoup_X0_sharesThatAreCosts : GoodIn wsX0_recoup (wsV RX0 96 RX0 yX0_sharesThatAreCosts wsX0_sharesThatAreCosts) := goodIn_app (goodIn_of _ (by decide +kernel)) ggX0_recoup_X0_sharesThatAreCosts
theorem dX0_recoup_0 : decode cX0_recoup 0 = .ok (.aload_n 0, 1) := by decide +kernel
theorem dX0_recoup_1 : decode cX0_recoup 1 = .ok (.iload_n 1, 1) := by decide +kernel
theorem dX0_recoup_2 : decode cX0_recoup 2 = .ok (.invokevirtual 82, 3) := by decide +kernel
theorem dX0_recoup_5 : decode cX0_recoup 5 = .ok (.lstore_n 2, 1) := by decide +kernel
theorem dX0_recoup_6 : decode cX0_recoup 6 = .ok (.lload_n 2, 1) := by decide +kernel
theorem dX0_recoup_7 : decode cX0_recoup 7 = .ok (.lload_n 2, 1) := by decide +kernel
theorem dX0_recoup_8 : decode cX0_recoup 8 = .ok (.aload_n 0, 1) := by decide +kernel
theorem dX0_recoup_9 : decode cX0_recoup 9 = .ok (.getfield 86, 3) := by decide +kernel
theorem dX0_recoup_12 : decode cX0_recoup 12 = .ok (.invokestatic 89, 3) := by decide +kernel
theorem dX0_recoup_15 : decode cX0_recoup 15 = .ok (.lsub, 1) := by decide +kernel
theorem dX0_recoup_16 : decode cX0_recoup 16 = .ok (.lstore 4, 2) := by decide +kernel
theorem dX0_recoup_18 : decode cX0_recoup 18 = .ok (.aload_n 0, 1) := by decide +kernel
theorem dX0_recoup_19 : decode cX0_recoup 19 = .ok (.iload_n 1, 1) := by decide +kernel
theorem dX0_recoup_20 : decode cX0_recoup 20 = .ok (.invokevirtual 93, 3) := by decide +kernel
theorem dX0_recoup_23 : decode cX0_recoup 23 = .ok (.lstore 6, 2) := by decide +kernel
theorem dX0_recoup_25 : decode cX0_recoup 25 = .ok (.aload_n 0, 1) := by decide +kernel
theorem dX0_recoup_26 : decode cX0_recoup 26 = .ok (.dup, 1) := by decide +kernel
theorem dX0_recoup_27 : decode cX0_recoup 27 = .ok (.getfield 63, 3) := by decide +kernel
theorem dX0_recoup_30 : decode cX0_recoup 30 = .ok (.lload_n 2, 1) := by decide +kernel
theorem dX0_recoup_31 : decode cX0_recoup 31 = .ok (.ladd, 1) := by decide +kernel
theorem dX0_recoup_32 : decode cX0_recoup 32 = .ok (.putfield 63, 3) := by decide +kernel
theorem dX0_recoup_35 : decode cX0_recoup 35 = .ok (.aload_n 0, 1) := by decide +kernel
theorem dX0_recoup_36 : decode cX0_recoup 36 = .ok (.dup, 1) := by decide +kernel
theorem dX0_recoup_37 : decode cX0_recoup 37 = .ok (.getfield 67, 3) := by decide +kernel
theorem dX0_recoup_40 : decode cX0_recoup 40 = .ok (.lload 4, 2) := by decide +kernel
theorem dX0_recoup_42 : decode cX0_recoup 42 = .ok (.ladd, 1) := by decide +kernel
theorem dX0_recoup_43 : decode cX0_recoup 43 = .ok (.putfield 67, 3) := by decide +kernel
theorem dX0_recoup_46 : decode cX0_recoup 46 = .ok (.aload_n 0, 1) := by decide +kernel
theorem dX0_recoup_47 : decode cX0_recoup 47 = .ok (.dup, 1) := by decide +kernel
theorem dX0_recoup_48 : decode cX0_recoup 48 = .ok (.getfield 70, 3) := by decide +kernel
theorem dX0_recoup_51 : decode cX0_recoup 51 = .ok (.lload 6, 2) := by decide +kernel
theorem dX0_recoup_53 : decode cX0_recoup 53 = .ok (.ladd, 1) := by decide +kernel
theorem dX0_recoup_54 : decode cX0_recoup 54 = .ok (.putfield 70, 3) := by decide +kernel
theorem dX0_recoup_57 : decode cX0_recoup 57 = .ok (.aload_n 0, 1) := by decide +kernel
theorem dX0_recoup_58 : decode cX0_recoup 58 = .ok (.invokevirtual 96, 3) := by decide +kernel
theorem dX0_recoup_61 : decode cX0_recoup 61 = .ok (.lstore 8, 2) := by decide +kernel
theorem dX0_recoup_63 : decode cX0_recoup 63 = .ok (.aload_n 0, 1) := by decide +kernel
theorem dX0_recoup_64 : decode cX0_recoup 64 = .ok (.dup, 1) := by decide +kernel
theorem dX0_recoup_65 : decode cX0_recoup 65 = .ok (.getfield 76, 3) := by decide +kernel
theorem dX0_recoup_68 : decode cX0_recoup 68 = .ok (.aload_n 0, 1) := by decide +kernel
theorem dX0_recoup_69 : decode cX0_recoup 69 = .ok (.getfield 16, 3) := by decide +kernel
theorem dX0_recoup_72 : decode cX0_recoup 72 = .ok (.iload_n 1, 1) := by decide +kernel
theorem dX0_recoup_73 : decode cX0_recoup 73 = .ok (.iaload, 1) := by decide +kernel
theorem dX0_recoup_74 : decode cX0_recoup 74 = .ok (.i2l, 1) := by decide +kernel
theorem dX0_recoup_75 : decode cX0_recoup 75 = .ok (.aload_n 0, 1) := by decide +kernel
theorem dX0_recoup_76 : decode cX0_recoup 76 = .ok (.getfield 16, 3) := by decide +kernel
theorem dX0_recoup_79 : decode cX0_recoup 79 = .ok (.iload_n 1, 1) := by decide +kernel
theorem dX0_recoup_80 : decode cX0_recoup 80 = .ok (.iaload, 1) := by decide +kernel
theorem dX0_recoup_81 : decode cX0_recoup 81 = .ok (.i2l, 1) := by decide +kernel
theorem dX0_recoup_82 : decode cX0_recoup 82 = .ok (.aload_n 0, 1) := by decide +kernel
theorem dX0_recoup_83 : decode cX0_recoup 83 = .ok (.getfield 100, 3) := by decide +kernel
theorem dX0_recoup_86 : decode cX0_recoup 86 = .ok (.invokestatic 89, 3) := by decide +kernel
theorem dX0_recoup_89 : decode cX0_recoup 89 = .ok (.ladd, 1) := by decide +kernel
theorem dX0_recoup_90 : decode cX0_recoup 90 = .ok (.lload 8, 2) := by decide +kernel
theorem dX0_recoup_92 : decode cX0_recoup 92 = .ok (.ladd, 1) := by decide +kernel
theorem dX0_recoup_93 : decode cX0_recoup 93 = .ok (.aload_n 0, 1) := by decide +kernel
theorem dX0_recoup_94 : decode cX0_recoup 94 = .ok (.getfield 73, 3) := by decide +kernel
theorem dX0_recoup_97 : decode cX0_recoup 97 = .ok (.lsub, 1) := by decide +kernel
theorem dX0_recoup_98 : decode cX0_recoup 98 = .ok (.ladd, 1) := by decide +kernel
theorem dX0_recoup_99 : decode cX0_recoup 99 = .ok (.putfield 76, 3) := by decide +kernel
theorem dX0_recoup_102 : decode cX0_recoup 102 = .ok (.aload_n 0, 1) := by decide +kernel
theorem dX0_recoup_103 : decode cX0_recoup 103 = .ok (.lload 8, 2) := by decide +kernel
theorem dX0_recoup_105 : decode cX0_recoup 105 = .ok (.putfield 73, 3) := by decide +kernel
theorem dX0_recoup_108 : decode cX0_recoup 108 = .ok (.aload_n 0, 1) := by decide +kernel
theorem dX0_recoup_109 : decode cX0_recoup 109 = .ok (.dup, 1) := by decide +kernel
theorem dX0_recoup_110 : decode cX0_recoup 110 = .ok (.getfield 76, 3) := by decide +kernel
theorem dX0_recoup_113 : decode cX0_recoup 113 = .ok (.lload 4, 2) := by decide +kernel
theorem dX0_recoup_115 : decode cX0_recoup 115 = .ok (.lload 6, 2) := by decide +kernel
theorem dX0_recoup_117 : decode cX0_recoup 117 = .ok (.lsub, 1) := by decide +kernel
theorem dX0_recoup_118 : decode cX0_recoup 118 = .ok (.lsub, 1) := by decide +kernel
theorem dX0_recoup_119 : decode cX0_recoup 119 = .ok (.putfield 76, 3) := by decide +kernel
theorem dX0_recoup_122 : decode cX0_recoup 122 = .ok (.aload_n 0, 1) := by decide +kernel
theorem dX0_recoup_123 : decode cX0_recoup 123 = .ok (.getfield 76, 3) := by decide +kernel
theorem dX0_recoup_126 : decode cX0_recoup 126 = .ok (.lconst 0, 1) := by decide +kernel
theorem dX0_recoup_127 : decode cX0_recoup 127 = .ok (.lcmp, 1) := by decide +kernel
theorem dX0_recoup_128 : decode cX0_recoup 128 = .ok (.ifCond .lt 5, 3) := by decide +kernel
theorem dX0_recoup_131 : decode cX0_recoup 131 = .ok (.lconst 0, 1) := by decide +kernel
theorem dX0_recoup_132 : decode cX0_recoup 132 = .ok (.lreturn, 1) := by decide +kernel
theorem dX0_recoup_133 : decode cX0_recoup 133 = .ok (.aload_n 0, 1) := by decide +kernel
theorem dX0_recoup_134 : decode cX0_recoup 134 = .ok (.getfield 76, 3) := by decide +kernel
theorem dX0_recoup_137 : decode cX0_recoup 137 = .ok (.lneg, 1) := by decide +kernel
theorem dX0_recoup_138 : decode cX0_recoup 138 = .ok (.lstore 10, 2) := by decide +kernel
theorem dX0_recoup_140 : decode cX0_recoup 140 = .ok (.aload_n 0, 1) := by decide +kernel
theorem dX0_recoup_141 : decode cX0_recoup 141 = .ok (.dup, 1) := by decide +kernel
theorem dX0_recoup_142 : decode cX0_recoup 142 = .ok (.getfield 79, 3) := by decide +kernel
theorem dX0_recoup_145 : decode cX0_recoup 145 = .ok (.lload 10, 2) := by decide +kernel
theorem dX0_recoup_147 : decode cX0_recoup 147 = .ok (.ladd, 1) := by decide +kernel
theorem dX0_recoup_148 : decode cX0_recoup 148 = .ok (.putfield 79, 3) := by decide +kernel
theorem dX0_recoup_151 : decode cX0_recoup 151 = .ok (.aload_n 0, 1) := by decide +kernel
theorem dX0_recoup_152 : decode cX0_recoup 152 = .ok (.lconst 0, 1) := by decide +kernel
theorem dX0_recoup_153 : decode cX0_recoup 153 = .ok (.putfield 76, 3) := by decide +kernel
theorem dX0_recoup_156 : decode cX0_recoup 156 = .ok (.lload 10, 2) := by decide +kernel
theorem dX0_recoup_158 : decode cX0_recoup 158 = .ok (.lreturn, 1) := by decide +kernel
theorem dX0_moveGain_0 : decode cX0_moveGain 0 = .ok (.lload_n 1, 1) := by decide +kernel
theorem dX0_moveGain_1 : decode cX0_moveGain 1 = .ok (.aload_n 3, 1) := by decide +kernel
theorem dX0_moveGain_2 : decode cX0_moveGain 2 = .ok (.getfield 76, 3) := by decide +kernel
theorem dX0_moveGain_5 : decode cX0_moveGain 5 = .ok (.invokestatic 103, 3) := by decide +kernel
theorem dX0_moveGain_8 : decode cX0_moveGain 8 = .ok (.lstore 4, 2) := by decide +kernel
theorem dX0_moveGain_10 : decode cX0_moveGain 10 = .ok (.aload_n 0, 1) := by decide +kernel
theorem dX0_moveGain_11 : decode cX0_moveGain 11 = .ok (.dup, 1) := by decide +kernel
theorem dX0_moveGain_12 : decode cX0_moveGain 12 = .ok (.getfield 79, 3) := by decide +kernel
theorem dX0_moveGain_15 : decode cX0_moveGain 15 = .ok (.lload 4, 2) := by decide +kernel
theorem dX0_moveGain_17 : decode cX0_moveGain 17 = .ok (.lsub, 1) := by decide +kernel
theorem dX0_moveGain_18 : decode cX0_moveGain 18 = .ok (.putfield 79, 3) := by decide +kernel
theorem dX0_moveGain_21 : decode cX0_moveGain 21 = .ok (.aload_n 3, 1) := by decide +kernel
theorem dX0_moveGain_22 : decode cX0_moveGain 22 = .ok (.dup, 1) := by decide +kernel
theorem dX0_moveGain_23 : decode cX0_moveGain 23 = .ok (.getfield 76, 3) := by decide +kernel
theorem dX0_moveGain_26 : decode cX0_moveGain 26 = .ok (.lload 4, 2) := by decide +kernel
theorem dX0_moveGain_28 : decode cX0_moveGain 28 = .ok (.lsub, 1) := by decide +kernel
theorem dX0_moveGain_29 : decode cX0_moveGain 29 = .ok (.putfield 76, 3) := by decide +kernel
theorem dX0_moveGain_32 : decode cX0_moveGain 32 = .ok (.return_, 1) := by decide +kernel
set_option maxRecDepth 20000 in
theorem ggX0_finishYear_X2_part : GoodIn wsX0_finishYear wsX2_part := goodIn_r _ [8, 9] (by decide +kernel) (by decide +kernel)
set_option maxRecDepth 20000 in
theorem gX0_finishYear_X2_part_n89 : GoodIn wsX0_finishYear (wsX2_part) := ggX0_finishYear_X2_part
theorem dX0_finishYear_0 : decode cX0_finishYear 0 = .ok (.aload_n 0, 1) := by decide +kernel
theorem dX0_finishYear_1 : decode cX0_finishYear 1 = .ok (.dup, 1) := by decide +kernel
theorem dX0_finishYear_2 : decode cX0_finishYear 2 = .ok (.getfield 76, 3) := by decide +kernel
theorem dX0_finishYear_5 : decode cX0_finishYear 5 = .ok (.aload_n 0, 1) := by decide +kernel
theorem dX0_finishYear_6 : decode cX0_finishYear 6 = .ok (.getfield 76, 3) := by decide +kernel
theorem dX0_finishYear_9 : decode cX0_finishYear 9 = .ok (.aload_n 0, 1) := by decide +kernel
theorem dX0_finishYear_10 : decode cX0_finishYear 10 = .ok (.getfield 107, 3) := by decide +kernel
theorem dX0_finishYear_13 : decode cX0_finishYear 13 = .ok (.invokestatic 89, 3) := by decide +kernel
theorem dX0_finishYear_16 : decode cX0_finishYear 16 = .ok (.ladd, 1) := by decide +kernel
theorem dX0_finishYear_17 : decode cX0_finishYear 17 = .ok (.putfield 76, 3) := by decide +kernel
theorem dX0_finishYear_20 : decode cX0_finishYear 20 = .ok (.aload_n 0, 1) := by decide +kernel
theorem dX0_finishYear_21 : decode cX0_finishYear 21 = .ok (.getfield 30, 3) := by decide +kernel
theorem dX0_finishYear_24 : decode cX0_finishYear 24 = .ok (.iload_n 1, 1) := by decide +kernel
theorem dX0_finishYear_25 : decode cX0_finishYear 25 = .ok (.aload_n 0, 1) := by decide +kernel
theorem dX0_finishYear_26 : decode cX0_finishYear 26 = .ok (.getfield 76, 3) := by decide +kernel
theorem dX0_finishYear_29 : decode cX0_finishYear 29 = .ok (.lastore, 1) := by decide +kernel
theorem dX0_finishYear_30 : decode cX0_finishYear 30 = .ok (.aload_n 0, 1) := by decide +kernel
theorem dX0_finishYear_31 : decode cX0_finishYear 31 = .ok (.getfield 34, 3) := by decide +kernel
theorem dX0_finishYear_34 : decode cX0_finishYear 34 = .ok (.iload_n 1, 1) := by decide +kernel
theorem dX0_finishYear_35 : decode cX0_finishYear 35 = .ok (.aload_n 0, 1) := by decide +kernel
theorem dX0_finishYear_36 : decode cX0_finishYear 36 = .ok (.getfield 79, 3) := by decide +kernel
theorem dX0_finishYear_39 : decode cX0_finishYear 39 = .ok (.lastore, 1) := by decide +kernel
theorem dX0_finishYear_40 : decode cX0_finishYear 40 = .ok (.return_, 1) := by decide +kernel
set_option maxRecDepth 20000 in
theorem ggX0_sumDrawn_X1_shareOf : GoodIn wsX0_sumDrawn wsX1_shareOf := goodIn_r _ [14, 15, 16, 6, 7, 8, 17, 18, 19, 60, 61, 62, 63, 64, 65, 66] (by decide +kernel) (by decide +kernel)
set_option maxRecDepth 20000 in
theorem gX0_sumDrawn_X1_shareOf : GoodIn wsX0_sumDrawn (wsV RX0 110 RX1 yX1_shareOf wsX1_shareOf) := goodIn_app (goodIn_of _ (by decide +kernel)) ggX0_sumDrawn_X1_shareOf
set_option maxRecDepth 20000 in
theorem ggX0_sumDrawn_X0_poolDrawn : GoodIn wsX0_sumDrawn wsX0_poolDrawn := goodIn_r _ [24, 25, 26, 27, 28, 29, 30, 31, 32, 33, 34, 23, 35, 36, 37, 1, 3, 5, 6, 7, 8, 38, 39, 40, 41, 42, 43, 44, 45, 46, 47, 48, 49, 50, 51, 52, 53, 54, 67, 68, 69, 70, 71, 72, 73, 74, 75, 76, 77, 78, 79, 80, 81, 82, 83, 84, 60, 61, 62, 63, 64, 65, 66] (by decide +kernel) (by decide +kernel)
set_option maxRecDepth 20000 in
theorem gX0_sumDrawn_X0_poolDrawn : GoodIn wsX0_sumDrawn (wsV RX0 114 RX0 yX0_poolDrawn wsX0_poolDrawn) := goodIn_app (goodIn_of _ (by decide +kernel)) ggX0_sumDrawn_X0_poolDrawn
set_option maxRecDepth 20000 in
theorem ggX0_sumDrawn_X0_profitLeftAt : GoodIn wsX0_sumDrawn wsX0_profitLeftAt := goodIn_r _ [35, 36, 25, 37, 1, 3, 5, 6, 7, 8, 26, 27, 28, 29, 30, 31, 38, 39, 40, 41, 42, 43, 44, 45, 46, 47, 48, 49, 50, 51, 52, 53, 54, 67, 68, 69, 70, 71, 72, 73, 74, 75, 76, 77, 78, 79, 80, 81, 60, 61, 62, 63, 64, 65, 66, 82, 83, 84] (by decide +kernel) (by decide +kernel)
set_option maxRecDepth 20000 in
theorem gX0_sumDrawn_X0_profitLeftAt : GoodIn wsX0_sumDrawn (wsV RX0 123 RX0 yX0_profitLeftAt wsX0_profitLeftAt) := goodIn_app (goodIn_of _ (by decide +kernel)) ggX0_sumDrawn_X0_profitLeftAt
set_option maxRecDepth 20000 in
theorem ggX0_sumDrawn_X1_bonusAt : GoodIn wsX0_sumDrawn wsX1_bonusAt := goodIn_r _ [58, 15, 17, 59, 60, 61, 62, 63, 64, 65, 66] (by decide +kernel) (by decide +kernel)
set_option maxRecDepth 20000 in
theorem gX0_sumDrawn_X1_bonusAt : GoodIn wsX0_sumDrawn (wsV RX0 126 RX1 yX1_bonusAt wsX1_bonusAt) := goodIn_app (goodIn_of _ (by decide +kernel)) ggX0_sumDrawn_X1_bonusAt
theorem dX0_sumDrawn_0 : decode cX0_sumDrawn 0 = .ok (.aload_n 1, 1) := by decide +kernel
theorem dX0_sumDrawn_1 : decode cX0_sumDrawn 1 = .ok (.getfield 47, 3) := by decide +kernel
theorem dX0_sumDrawn_4 : decode cX0_sumDrawn 4 = .ok (.tableswitch 63 0 2 #[28, 37, 46], 28) := by decide +kernel
theorem dX0_sumDrawn_32 : decode cX0_sumDrawn 32 = .ok (.aload_n 1, 1) := by decide +kernel
theorem dX0_sumDrawn_33 : decode cX0_sumDrawn 33 = .ok (.aload_n 0, 1) := by decide +kernel
theorem dX0_sumDrawn_34 : decode cX0_sumDrawn 34 = .ok (.getfield 67, 3) := by decide +kernel
theorem dX0_sumDrawn_37 : decode cX0_sumDrawn 37 = .ok (.invokevirtual 110, 3) := by decide +kernel
theorem dX0_sumDrawn_40 : decode cX0_sumDrawn 40 = .ok (.lreturn, 1) := by decide +kernel
theorem dX0_sumDrawn_41 : decode cX0_sumDrawn 41 = .ok (.aload_n 1, 1) := by decide +kernel
theorem dX0_sumDrawn_42 : decode cX0_sumDrawn 42 = .ok (.aload_n 0, 1) := by decide +kernel
theorem dX0_sumDrawn_43 : decode cX0_sumDrawn 43 = .ok (.invokevirtual 114, 3) := by decide +kernel
theorem dX0_sumDrawn_46 : decode cX0_sumDrawn 46 = .ok (.invokevirtual 110, 3) := by decide +kernel
theorem dX0_sumDrawn_49 : decode cX0_sumDrawn 49 = .ok (.lreturn, 1) := by decide +kernel
theorem dX0_sumDrawn_50 : decode cX0_sumDrawn 50 = .ok (.aload_n 1, 1) := by decide +kernel
theorem dX0_sumDrawn_51 : decode cX0_sumDrawn 51 = .ok (.getfield 117, 3) := by decide +kernel
theorem dX0_sumDrawn_54 : decode cX0_sumDrawn 54 = .ok (.i2l, 1) := by decide +kernel
theorem dX0_sumDrawn_55 : decode cX0_sumDrawn 55 = .ok (.aload_n 0, 1) := by decide +kernel
theorem dX0_sumDrawn_56 : decode cX0_sumDrawn 56 = .ok (.aload_n 1, 1) := by decide +kernel
theorem dX0_sumDrawn_57 : decode cX0_sumDrawn 57 = .ok (.getfield 120, 3) := by decide +kernel
theorem dX0_sumDrawn_60 : decode cX0_sumDrawn 60 = .ok (.invokevirtual 123, 3) := by decide +kernel
theorem dX0_sumDrawn_63 : decode cX0_sumDrawn 63 = .ok (.invokestatic 103, 3) := by decide +kernel
theorem dX0_sumDrawn_66 : decode cX0_sumDrawn 66 = .ok (.lreturn, 1) := by decide +kernel
theorem dX0_sumDrawn_67 : decode cX0_sumDrawn 67 = .ok (.aload_n 1, 1) := by decide +kernel
theorem dX0_sumDrawn_68 : decode cX0_sumDrawn 68 = .ok (.aload_n 0, 1) := by decide +kernel
theorem dX0_sumDrawn_69 : decode cX0_sumDrawn 69 = .ok (.getfield 63, 3) := by decide +kernel
theorem dX0_sumDrawn_72 : decode cX0_sumDrawn 72 = .ok (.invokevirtual 126, 3) := by decide +kernel
theorem dX0_sumDrawn_75 : decode cX0_sumDrawn 75 = .ok (.lreturn, 1) := by decide +kernel
set_option maxRecDepth 20000 in
theorem ggX0_poolDrawn_Jx4a65c_size_8abf5 : GoodIn wsX0_poolDrawn wsJx4a65c_size_8abf5 := goodIn_r _ [6, 7, 53, 54, 55] (by decide +kernel) (by decide +kernel)
set_option maxRecDepth 20000 in
theorem gX0_poolDrawn_Jx4a65c_size_8abf5 : GoodIn wsX0_poolDrawn (wsV RX0 37 RJx4a65c yJx4a65c_size_8abf5 wsJx4a65c_size_8abf5) := goodIn_app (goodIn_of _ (by decide +kernel)) ggX0_poolDrawn_Jx4a65c_size_8abf5
set_option maxRecDepth 20000 in
theorem ggX0_poolDrawn_X0_profitLeftAt : GoodIn wsX0_poolDrawn wsX0_profitLeftAt := goodIn_r _ [12, 13, 1, 14, 15, 16, 17, 18, 19, 20, 2, 3, 4, 5, 6, 7, 21, 22, 23, 24, 25, 26, 27, 28, 29, 30, 31, 32, 33, 34, 35, 36, 37, 38, 39, 40, 41, 42, 43, 44, 45, 46, 47, 48, 49, 50, 51, 52, 56, 57, 58, 59, 60, 61, 62, 53, 54, 55] (by decide +kernel) (by decide +kernel)
set_option maxRecDepth 20000 in
theorem gX0_poolDrawn_X0_profitLeftAt : GoodIn wsX0_poolDrawn (wsV RX0 123 RX0 yX0_profitLeftAt wsX0_profitLeftAt) := goodIn_app (goodIn_of _ (by decide +kernel)) ggX0_poolDrawn_X0_profitLeftAt
theorem dX0_poolDrawn_0 : decode cX0_poolDrawn 0 = .ok (.aload_n 0, 1) := by decide +kernel
theorem dX0_poolDrawn_1 : decode cX0_poolDrawn 1 = .ok (.aload_n 0, 1) := by decide +kernel
theorem dX0_poolDrawn_2 : decode cX0_poolDrawn 2 = .ok (.getfield 26, 3) := by decide +kernel
theorem dX0_poolDrawn_5 : decode cX0_poolDrawn 5 = .ok (.invokevirtual 37, 3) := by decide +kernel
theorem dX0_poolDrawn_8 : decode cX0_poolDrawn 8 = .ok (.invokevirtual 123, 3) := by decide +kernel
theorem dX0_poolDrawn_11 : decode cX0_poolDrawn 11 = .ok (.lreturn, 1) := by decide +kernel
theorem dX0_grossIn_0 : decode cX0_grossIn 0 = .ok (.lconst 0, 1) := by decide +kernel
theorem dX0_grossIn_1 : decode cX0_grossIn 1 = .ok (.lstore_n 2, 1) := by decide +kernel
theorem dX0_grossIn_2 : decode cX0_grossIn 2 = .ok (.iconst 0, 1) := by decide +kernel
theorem dX0_grossIn_3 : decode cX0_grossIn 3 = .ok (.istore 4, 2) := by decide +kernel
theorem dX0_grossIn_5 : decode cX0_grossIn 5 = .ok (.iload 4, 2) := by decide +kernel
theorem dX0_grossIn_7 : decode cX0_grossIn 7 = .ok (.iconst 4, 1) := by decide +kernel
theorem dX0_grossIn_8 : decode cX0_grossIn 8 = .ok (.if_icmp .ge 22, 3) := by decide +kernel
theorem dX0_grossIn_11 : decode cX0_grossIn 11 = .ok (.lload_n 2, 1) := by decide +kernel
theorem dX0_grossIn_12 : decode cX0_grossIn 12 = .ok (.aload_n 0, 1) := by decide +kernel
theorem dX0_grossIn_13 : decode cX0_grossIn 13 = .ok (.getfield 11, 3) := by decide +kernel
theorem dX0_grossIn_16 : decode cX0_grossIn 16 = .ok (.iload_n 1, 1) := by decide +kernel
theorem dX0_grossIn_17 : decode cX0_grossIn 17 = .ok (.aaload, 1) := by decide +kernel
theorem dX0_grossIn_18 : decode cX0_grossIn 18 = .ok (.iload 4, 2) := by decide +kernel
theorem dX0_grossIn_20 : decode cX0_grossIn 20 = .ok (.iaload, 1) := by decide +kernel
theorem dX0_grossIn_21 : decode cX0_grossIn 21 = .ok (.i2l, 1) := by decide +kernel
theorem dX0_grossIn_22 : decode cX0_grossIn 22 = .ok (.ladd, 1) := by decide +kernel
theorem dX0_grossIn_23 : decode cX0_grossIn 23 = .ok (.lstore_n 2, 1) := by decide +kernel
theorem dX0_grossIn_24 : decode cX0_grossIn 24 = .ok (.iinc 4 1, 3) := by decide +kernel
theorem dX0_grossIn_27 : decode cX0_grossIn 27 = .ok (.goto (-22), 3) := by decide +kernel
theorem dX0_grossIn_30 : decode cX0_grossIn 30 = .ok (.lload_n 2, 1) := by decide +kernel
theorem dX0_grossIn_31 : decode cX0_grossIn 31 = .ok (.lreturn, 1) := by decide +kernel
set_option maxRecDepth 20000 in
theorem ggX0_feesIn_X2_part : GoodIn wsX0_feesIn wsX2_part := goodIn_r _ [5, 6] (by decide +kernel) (by decide +kernel)
set_option maxRecDepth 20000 in
theorem gX0_feesIn_X2_part_n89 : GoodIn wsX0_feesIn (wsX2_part) := ggX0_feesIn_X2_part
theorem dX0_feesIn_0 : decode cX0_feesIn 0 = .ok (.lconst 0, 1) := by decide +kernel
theorem dX0_feesIn_1 : decode cX0_feesIn 1 = .ok (.lstore_n 2, 1) := by decide +kernel
theorem dX0_feesIn_2 : decode cX0_feesIn 2 = .ok (.iconst 0, 1) := by decide +kernel
theorem dX0_feesIn_3 : decode cX0_feesIn 3 = .ok (.istore 4, 2) := by decide +kernel
theorem dX0_feesIn_5 : decode cX0_feesIn 5 = .ok (.iload 4, 2) := by decide +kernel
theorem dX0_feesIn_7 : decode cX0_feesIn 7 = .ok (.iconst 4, 1) := by decide +kernel
theorem dX0_feesIn_8 : decode cX0_feesIn 8 = .ok (.if_icmp .ge 32, 3) := by decide +kernel
theorem dX0_feesIn_11 : decode cX0_feesIn 11 = .ok (.lload_n 2, 1) := by decide +kernel
theorem dX0_feesIn_12 : decode cX0_feesIn 12 = .ok (.aload_n 0, 1) := by decide +kernel
theorem dX0_feesIn_13 : decode cX0_feesIn 13 = .ok (.getfield 11, 3) := by decide +kernel
theorem dX0_feesIn_16 : decode cX0_feesIn 16 = .ok (.iload_n 1, 1) := by decide +kernel
theorem dX0_feesIn_17 : decode cX0_feesIn 17 = .ok (.aaload, 1) := by decide +kernel
theorem dX0_feesIn_18 : decode cX0_feesIn 18 = .ok (.iload 4, 2) := by decide +kernel
theorem dX0_feesIn_20 : decode cX0_feesIn 20 = .ok (.iaload, 1) := by decide +kernel
theorem dX0_feesIn_21 : decode cX0_feesIn 21 = .ok (.i2l, 1) := by decide +kernel
theorem dX0_feesIn_22 : decode cX0_feesIn 22 = .ok (.aload_n 0, 1) := by decide +kernel
theorem dX0_feesIn_23 : decode cX0_feesIn 23 = .ok (.getfield 20, 3) := by decide +kernel
theorem dX0_feesIn_26 : decode cX0_feesIn 26 = .ok (.iload 4, 2) := by decide +kernel
theorem dX0_feesIn_28 : decode cX0_feesIn 28 = .ok (.iaload, 1) := by decide +kernel
theorem dX0_feesIn_29 : decode cX0_feesIn 29 = .ok (.invokestatic 89, 3) := by decide +kernel
theorem dX0_feesIn_32 : decode cX0_feesIn 32 = .ok (.ladd, 1) := by decide +kernel
theorem dX0_feesIn_33 : decode cX0_feesIn 33 = .ok (.lstore_n 2, 1) := by decide +kernel
theorem dX0_feesIn_34 : decode cX0_feesIn 34 = .ok (.iinc 4 1, 3) := by decide +kernel
theorem dX0_feesIn_37 : decode cX0_feesIn 37 = .ok (.goto (-32), 3) := by decide +kernel
theorem dX0_feesIn_40 : decode cX0_feesIn 40 = .ok (.lload_n 2, 1) := by decide +kernel
theorem dX0_feesIn_41 : decode cX0_feesIn 41 = .ok (.lreturn, 1) := by decide +kernel
set_option maxRecDepth 20000 in
theorem ggX0_sharesThatAreCosts_Jx4a65c_size_8abf5 : GoodIn wsX0_sharesThatAreCosts wsJx4a65c_size_8abf5 := goodIn_r _ [10, 11, 69, 70, 71] (by decide +kernel) (by decide +kernel)
set_option maxRecDepth 20000 in
theorem gX0_sharesThatAreCosts_Jx4a65c_size_8abf5 : GoodIn wsX0_sharesThatAreCosts (wsV RX0 37 RJx4a65c yJx4a65c_size_8abf5 wsJx4a65c_size_8abf5) := goodIn_app (goodIn_of _ (by decide +kernel)) ggX0_sharesThatAreCosts_Jx4a65c_size_8abf5
set_option maxRecDepth 20000 in
theorem ggX0_sharesThatAreCosts_Jx4a65c_get_915e3 : GoodIn wsX0_sharesThatAreCosts wsJx4a65c_get_915e3 := goodIn_r _ [15, 11, 16, 17, 18, 19, 20, 21, 22, 23, 24, 25, 26, 9, 27, 28, 69, 70, 71] (by decide +kernel) (by decide +kernel)
set_option maxRecDepth 20000 in
theorem gX0_sharesThatAreCosts_Jx4a65c_get_915e3 : GoodIn wsX0_sharesThatAreCosts (wsV RX0 41 RJx4a65c yJx4a65c_get_915e3 wsJx4a65c_get_915e3) := goodIn_app (goodIn_of _ (by decide +kernel)) ggX0_sharesThatAreCosts_Jx4a65c_get_915e3
set_option maxRecDepth 20000 in
theorem ggX0_sharesThatAreCosts_X1_shareOf : GoodIn wsX0_sharesThatAreCosts wsX1_shareOf := goodIn_r _ [33, 34, 35, 36, 37, 38, 39, 40, 41, 62, 63, 64, 65, 66, 67, 68] (by decide +kernel) (by decide +kernel)
set_option maxRecDepth 20000 in
theorem gX0_sharesThatAreCosts_X1_shareOf : GoodIn wsX0_sharesThatAreCosts (wsV RX0 110 RX1 yX1_shareOf wsX1_shareOf) := goodIn_app (goodIn_of _ (by decide +kernel)) ggX0_sharesThatAreCosts_X1_shareOf
set_option maxRecDepth 20000 in
theorem ggX0_sharesThatAreCosts_X1_bonusAt : GoodIn wsX0_sharesThatAreCosts wsX1_bonusAt := goodIn_r _ [45, 34, 39, 46, 62, 63, 64, 65, 66, 67, 68] (by decide +kernel) (by decide +kernel)
set_option maxRecDepth 20000 in
theorem gX0_sharesThatAreCosts_X1_bonusAt : GoodIn wsX0_sharesThatAreCosts (wsV RX0 126 RX1 yX1_bonusAt wsX1_bonusAt) := goodIn_app (goodIn_of _ (by decide +kernel)) ggX0_sharesThatAreCosts_X1_bonusAt
theorem dX0_sharesThatAreCosts_0 : decode cX0_sharesThatAreCosts 0 = .ok (.lconst 0, 1) := by decide +kernel
theorem dX0_sharesThatAreCosts_1 : decode cX0_sharesThatAreCosts 1 = .ok (.lstore_n 1, 1) := by decide +kernel
theorem dX0_sharesThatAreCosts_2 : decode cX0_sharesThatAreCosts 2 = .ok (.iconst 0, 1) := by decide +kernel
theorem dX0_sharesThatAreCosts_3 : decode cX0_sharesThatAreCosts 3 = .ok (.istore_n 3, 1) := by decide +kernel
theorem dX0_sharesThatAreCosts_4 : decode cX0_sharesThatAreCosts 4 = .ok (.iload_n 3, 1) := by decide +kernel
theorem dX0_sharesThatAreCosts_5 : decode cX0_sharesThatAreCosts 5 = .ok (.aload_n 0, 1) := by decide +kernel
theorem dX0_sharesThatAreCosts_6 : decode cX0_sharesThatAreCosts 6 = .ok (.getfield 26, 3) := by decide +kernel
theorem dX0_sharesThatAreCosts_9 : decode cX0_sharesThatAreCosts 9 = .ok (.invokevirtual 37, 3) := by decide +kernel
theorem dX0_sharesThatAreCosts_12 : decode cX0_sharesThatAreCosts 12 = .ok (.if_icmp .ge 66, 3) := by decide +kernel
theorem dX0_sharesThatAreCosts_15 : decode cX0_sharesThatAreCosts 15 = .ok (.aload_n 0, 1) := by decide +kernel
theorem dX0_sharesThatAreCosts_16 : decode cX0_sharesThatAreCosts 16 = .ok (.getfield 26, 3) := by decide +kernel
theorem dX0_sharesThatAreCosts_19 : decode cX0_sharesThatAreCosts 19 = .ok (.iload_n 3, 1) := by decide +kernel
theorem dX0_sharesThatAreCosts_20 : decode cX0_sharesThatAreCosts 20 = .ok (.invokevirtual 41, 3) := by decide +kernel
theorem dX0_sharesThatAreCosts_23 : decode cX0_sharesThatAreCosts 23 = .ok (.checkcast 45, 3) := by decide +kernel
theorem dX0_sharesThatAreCosts_26 : decode cX0_sharesThatAreCosts 26 = .ok (.astore 4, 2) := by decide +kernel
theorem dX0_sharesThatAreCosts_28 : decode cX0_sharesThatAreCosts 28 = .ok (.aload 4, 2) := by decide +kernel
theorem dX0_sharesThatAreCosts_30 : decode cX0_sharesThatAreCosts 30 = .ok (.getfield 47, 3) := by decide +kernel
theorem dX0_sharesThatAreCosts_33 : decode cX0_sharesThatAreCosts 33 = .ok (.ifCond .ne 18, 3) := by decide +kernel
theorem dX0_sharesThatAreCosts_36 : decode cX0_sharesThatAreCosts 36 = .ok (.lload_n 1, 1) := by decide +kernel
theorem dX0_sharesThatAreCosts_37 : decode cX0_sharesThatAreCosts 37 = .ok (.aload 4, 2) := by decide +kernel
theorem dX0_sharesThatAreCosts_39 : decode cX0_sharesThatAreCosts 39 = .ok (.aload_n 0, 1) := by decide +kernel
theorem dX0_sharesThatAreCosts_40 : decode cX0_sharesThatAreCosts 40 = .ok (.getfield 67, 3) := by decide +kernel
theorem dX0_sharesThatAreCosts_43 : decode cX0_sharesThatAreCosts 43 = .ok (.invokevirtual 110, 3) := by decide +kernel
theorem dX0_sharesThatAreCosts_46 : decode cX0_sharesThatAreCosts 46 = .ok (.ladd, 1) := by decide +kernel
theorem dX0_sharesThatAreCosts_47 : decode cX0_sharesThatAreCosts 47 = .ok (.lstore_n 1, 1) := by decide +kernel
theorem dX0_sharesThatAreCosts_48 : decode cX0_sharesThatAreCosts 48 = .ok (.goto 24, 3) := by decide +kernel
theorem dX0_sharesThatAreCosts_51 : decode cX0_sharesThatAreCosts 51 = .ok (.aload 4, 2) := by decide +kernel
theorem dX0_sharesThatAreCosts_53 : decode cX0_sharesThatAreCosts 53 = .ok (.getfield 47, 3) := by decide +kernel
theorem dX0_sharesThatAreCosts_56 : decode cX0_sharesThatAreCosts 56 = .ok (.iconst 3, 1) := by decide +kernel
theorem dX0_sharesThatAreCosts_57 : decode cX0_sharesThatAreCosts 57 = .ok (.if_icmp .ne 15, 3) := by decide +kernel
theorem dX0_sharesThatAreCosts_60 : decode cX0_sharesThatAreCosts 60 = .ok (.lload_n 1, 1) := by decide +kernel
theorem dX0_sharesThatAreCosts_61 : decode cX0_sharesThatAreCosts 61 = .ok (.aload 4, 2) := by decide +kernel
theorem dX0_sharesThatAreCosts_63 : decode cX0_sharesThatAreCosts 63 = .ok (.aload_n 0, 1) := by decide +kernel
theorem dX0_sharesThatAreCosts_64 : decode cX0_sharesThatAreCosts 64 = .ok (.getfield 63, 3) := by decide +kernel
theorem dX0_sharesThatAreCosts_67 : decode cX0_sharesThatAreCosts 67 = .ok (.invokevirtual 126, 3) := by decide +kernel
theorem dX0_sharesThatAreCosts_70 : decode cX0_sharesThatAreCosts 70 = .ok (.ladd, 1) := by decide +kernel
theorem dX0_sharesThatAreCosts_71 : decode cX0_sharesThatAreCosts 71 = .ok (.lstore_n 1, 1) := by decide +kernel
theorem dX0_sharesThatAreCosts_72 : decode cX0_sharesThatAreCosts 72 = .ok (.iinc 3 1, 3) := by decide +kernel
theorem dX0_sharesThatAreCosts_75 : decode cX0_sharesThatAreCosts 75 = .ok (.goto (-71), 3) := by decide +kernel
theorem dX0_sharesThatAreCosts_78 : decode cX0_sharesThatAreCosts 78 = .ok (.lload_n 1, 1) := by decide +kernel
theorem dX0_sharesThatAreCosts_79 : decode cX0_sharesThatAreCosts 79 = .ok (.lreturn, 1) := by decide +kernel
set_option maxRecDepth 20000 in
theorem ggX0_profitLeftAt_Jx4a65c_size_8abf5 : GoodIn wsX0_profitLeftAt wsJx4a65c_size_8abf5 := goodIn_r _ [14, 15, 55, 56, 57] (by decide +kernel) (by decide +kernel)
set_option maxRecDepth 20000 in
theorem gX0_profitLeftAt_Jx4a65c_size_8abf5 : GoodIn wsX0_profitLeftAt (wsV RX0 37 RJx4a65c yJx4a65c_size_8abf5 wsJx4a65c_size_8abf5) := goodIn_app (goodIn_of _ (by decide +kernel)) ggX0_profitLeftAt_Jx4a65c_size_8abf5
set_option maxRecDepth 20000 in
theorem ggX0_profitLeftAt_Jx4a65c_get_915e3 : GoodIn wsX0_profitLeftAt wsJx4a65c_get_915e3 := goodIn_r _ [19, 15, 20, 21, 22, 23, 24, 25, 26, 27, 28, 29, 30, 13, 31, 32, 55, 56, 57] (by decide +kernel) (by decide +kernel)
set_option maxRecDepth 20000 in
theorem gX0_profitLeftAt_Jx4a65c_get_915e3 : GoodIn wsX0_profitLeftAt (wsV RX0 41 RJx4a65c yJx4a65c_get_915e3 wsJx4a65c_get_915e3) := goodIn_app (goodIn_of _ (by decide +kernel)) ggX0_profitLeftAt_Jx4a65c_get_915e3
theorem dX0_profitLeftAt_0 : decode cX0_profitLeftAt 0 = .ok (.aload_n 0, 1) := by decide +kernel
theorem dX0_profitLeftAt_1 : decode cX0_profitLeftAt 1 = .ok (.getfield 79, 3) := by decide +kernel
theorem dX0_profitLeftAt_4 : decode cX0_profitLeftAt 4 = .ok (.lstore_n 2, 1) := by decide +kernel
theorem dX0_profitLeftAt_5 : decode cX0_profitLeftAt 5 = .ok (.iconst 0, 1) := by decide +kernel
theorem dX0_profitLeftAt_6 : decode cX0_profitLeftAt 6 = .ok (.istore 4, 2) := by decide +kernel
theorem dX0_profitLeftAt_8 : decode cX0_profitLeftAt 8 = .ok (.iload 4, 2) := by decide +kernel
theorem dX0_profitLeftAt_10 : decode cX0_profitLeftAt 10 = .ok (.aload_n 0, 1) := by decide +kernel
theorem dX0_profitLeftAt_11 : decode cX0_profitLeftAt 11 = .ok (.getfield 26, 3) := by decide +kernel
theorem dX0_profitLeftAt_14 : decode cX0_profitLeftAt 14 = .ok (.invokevirtual 37, 3) := by decide +kernel
theorem dX0_profitLeftAt_17 : decode cX0_profitLeftAt 17 = .ok (.if_icmp .ge 51, 3) := by decide +kernel
theorem dX0_profitLeftAt_20 : decode cX0_profitLeftAt 20 = .ok (.iload 4, 2) := by decide +kernel
theorem dX0_profitLeftAt_22 : decode cX0_profitLeftAt 22 = .ok (.iload_n 1, 1) := by decide +kernel
theorem dX0_profitLeftAt_23 : decode cX0_profitLeftAt 23 = .ok (.if_icmp .ge 45, 3) := by decide +kernel
theorem dX0_profitLeftAt_26 : decode cX0_profitLeftAt 26 = .ok (.aload_n 0, 1) := by decide +kernel
theorem dX0_profitLeftAt_27 : decode cX0_profitLeftAt 27 = .ok (.getfield 26, 3) := by decide +kernel
theorem dX0_profitLeftAt_30 : decode cX0_profitLeftAt 30 = .ok (.iload 4, 2) := by decide +kernel
theorem dX0_profitLeftAt_32 : decode cX0_profitLeftAt 32 = .ok (.invokevirtual 41, 3) := by decide +kernel
theorem dX0_profitLeftAt_35 : decode cX0_profitLeftAt 35 = .ok (.checkcast 45, 3) := by decide +kernel
theorem dX0_profitLeftAt_38 : decode cX0_profitLeftAt 38 = .ok (.astore 5, 2) := by decide +kernel
theorem dX0_profitLeftAt_40 : decode cX0_profitLeftAt 40 = .ok (.aload 5, 2) := by decide +kernel
theorem dX0_profitLeftAt_42 : decode cX0_profitLeftAt 42 = .ok (.getfield 47, 3) := by decide +kernel
theorem dX0_profitLeftAt_45 : decode cX0_profitLeftAt 45 = .ok (.iconst 2, 1) := by decide +kernel
theorem dX0_profitLeftAt_46 : decode cX0_profitLeftAt 46 = .ok (.if_icmp .ne 16, 3) := by decide +kernel
theorem dX0_profitLeftAt_49 : decode cX0_profitLeftAt 49 = .ok (.lload_n 2, 1) := by decide +kernel
theorem dX0_profitLeftAt_50 : decode cX0_profitLeftAt 50 = .ok (.aload 5, 2) := by decide +kernel
theorem dX0_profitLeftAt_52 : decode cX0_profitLeftAt 52 = .ok (.getfield 117, 3) := by decide +kernel
theorem dX0_profitLeftAt_55 : decode cX0_profitLeftAt 55 = .ok (.i2l, 1) := by decide +kernel
theorem dX0_profitLeftAt_56 : decode cX0_profitLeftAt 56 = .ok (.lload_n 2, 1) := by decide +kernel
theorem dX0_profitLeftAt_57 : decode cX0_profitLeftAt 57 = .ok (.invokestatic 103, 3) := by decide +kernel
theorem dX0_profitLeftAt_60 : decode cX0_profitLeftAt 60 = .ok (.lsub, 1) := by decide +kernel
theorem dX0_profitLeftAt_61 : decode cX0_profitLeftAt 61 = .ok (.lstore_n 2, 1) := by decide +kernel
theorem dX0_profitLeftAt_62 : decode cX0_profitLeftAt 62 = .ok (.iinc 4 1, 3) := by decide +kernel
theorem dX0_profitLeftAt_65 : decode cX0_profitLeftAt 65 = .ok (.goto (-57), 3) := by decide +kernel
theorem dX0_profitLeftAt_68 : decode cX0_profitLeftAt 68 = .ok (.lload_n 2, 1) := by decide +kernel
theorem dX0_profitLeftAt_69 : decode cX0_profitLeftAt 69 = .ok (.lreturn, 1) := by decide +kernel
theorem dX1_init_0 : decode cX1_init 0 = .ok (.aload_n 0, 1) := by decide +kernel
theorem dX1_init_1 : decode cX1_init 1 = .ok (.invokespecial 3, 3) := by decide +kernel
theorem dX1_init_4 : decode cX1_init 4 = .ok (.aload_n 0, 1) := by decide +kernel
theorem dX1_init_5 : decode cX1_init 5 = .ok (.aload_n 1, 1) := by decide +kernel
theorem dX1_init_6 : decode cX1_init 6 = .ok (.putfield 9, 3) := by decide +kernel
theorem dX1_init_9 : decode cX1_init 9 = .ok (.aload_n 0, 1) := by decide +kernel
theorem dX1_init_10 : decode cX1_init 10 = .ok (.iload_n 2, 1) := by decide +kernel
theorem dX1_init_11 : decode cX1_init 11 = .ok (.putfield 15, 3) := by decide +kernel
theorem dX1_init_14 : decode cX1_init 14 = .ok (.aload_n 0, 1) := by decide +kernel
theorem dX1_init_15 : decode cX1_init 15 = .ok (.iload_n 3, 1) := by decide +kernel
theorem dX1_init_16 : decode cX1_init 16 = .ok (.putfield 19, 3) := by decide +kernel
theorem dX1_init_19 : decode cX1_init 19 = .ok (.aload_n 0, 1) := by decide +kernel
theorem dX1_init_20 : decode cX1_init 20 = .ok (.iload 4, 2) := by decide +kernel
theorem dX1_init_22 : decode cX1_init 22 = .ok (.putfield 22, 3) := by decide +kernel
theorem dX1_init_25 : decode cX1_init 25 = .ok (.aload_n 0, 1) := by decide +kernel
theorem dX1_init_26 : decode cX1_init 26 = .ok (.iload 5, 2) := by decide +kernel
theorem dX1_init_28 : decode cX1_init 28 = .ok (.putfield 25, 3) := by decide +kernel
theorem dX1_init_31 : decode cX1_init 31 = .ok (.aload_n 0, 1) := by decide +kernel
theorem dX1_init_32 : decode cX1_init 32 = .ok (.iload 6, 2) := by decide +kernel
theorem dX1_init_34 : decode cX1_init 34 = .ok (.putfield 28, 3) := by decide +kernel
theorem dX1_init_37 : decode cX1_init 37 = .ok (.return_, 1) := by decide +kernel
theorem dX1_shareOf_0 : decode cX1_shareOf 0 = .ok (.lload_n 1, 1) := by decide +kernel
theorem dX1_shareOf_1 : decode cX1_shareOf 1 = .ok (.aload_n 0, 1) := by decide +kernel
theorem dX1_shareOf_2 : decode cX1_shareOf 2 = .ok (.getfield 22, 3) := by decide +kernel
theorem dX1_shareOf_5 : decode cX1_shareOf 5 = .ok (.i2l, 1) := by decide +kernel
theorem dX1_shareOf_6 : decode cX1_shareOf 6 = .ok (.invokestatic 31, 3) := by decide +kernel
theorem dX1_shareOf_9 : decode cX1_shareOf 9 = .ok (.lstore_n 3, 1) := by decide +kernel
theorem dX1_shareOf_10 : decode cX1_shareOf 10 = .ok (.lload_n 1, 1) := by decide +kernel
theorem dX1_shareOf_11 : decode cX1_shareOf 11 = .ok (.lload_n 3, 1) := by decide +kernel
theorem dX1_shareOf_12 : decode cX1_shareOf 12 = .ok (.lsub, 1) := by decide +kernel
theorem dX1_shareOf_13 : decode cX1_shareOf 13 = .ok (.lstore 5, 2) := by decide +kernel
theorem dX1_shareOf_15 : decode cX1_shareOf 15 = .ok (.lload_n 3, 1) := by decide +kernel
theorem dX1_shareOf_16 : decode cX1_shareOf 16 = .ok (.aload_n 0, 1) := by decide +kernel
theorem dX1_shareOf_17 : decode cX1_shareOf 17 = .ok (.getfield 25, 3) := by decide +kernel
theorem dX1_shareOf_20 : decode cX1_shareOf 20 = .ok (.i2l, 1) := by decide +kernel
theorem dX1_shareOf_21 : decode cX1_shareOf 21 = .ok (.lmul, 1) := by decide +kernel
theorem dX1_shareOf_22 : decode cX1_shareOf 22 = .ok (.lload 5, 2) := by decide +kernel
theorem dX1_shareOf_24 : decode cX1_shareOf 24 = .ok (.aload_n 0, 1) := by decide +kernel
theorem dX1_shareOf_25 : decode cX1_shareOf 25 = .ok (.getfield 28, 3) := by decide +kernel
theorem dX1_shareOf_28 : decode cX1_shareOf 28 = .ok (.i2l, 1) := by decide +kernel
theorem dX1_shareOf_29 : decode cX1_shareOf 29 = .ok (.lmul, 1) := by decide +kernel
theorem dX1_shareOf_30 : decode cX1_shareOf 30 = .ok (.ladd, 1) := by decide +kernel
theorem dX1_shareOf_31 : decode cX1_shareOf 31 = .ok (.ldc2_w 37, 3) := by decide +kernel
theorem dX1_shareOf_34 : decode cX1_shareOf 34 = .ok (.ldiv, 1) := by decide +kernel
theorem dX1_shareOf_35 : decode cX1_shareOf 35 = .ok (.lreturn, 1) := by decide +kernel
theorem dX1_bonusAt_0 : decode cX1_bonusAt 0 = .ok (.lload_n 1, 1) := by decide +kernel
theorem dX1_bonusAt_1 : decode cX1_bonusAt 1 = .ok (.aload_n 0, 1) := by decide +kernel
theorem dX1_bonusAt_2 : decode cX1_bonusAt 2 = .ok (.getfield 22, 3) := by decide +kernel
theorem dX1_bonusAt_5 : decode cX1_bonusAt 5 = .ok (.i2l, 1) := by decide +kernel
theorem dX1_bonusAt_6 : decode cX1_bonusAt 6 = .ok (.lcmp, 1) := by decide +kernel
theorem dX1_bonusAt_7 : decode cX1_bonusAt 7 = .ok (.ifCond .lt 15, 3) := by decide +kernel
theorem dX1_bonusAt_10 : decode cX1_bonusAt 10 = .ok (.aload_n 0, 1) := by decide +kernel
theorem dX1_bonusAt_11 : decode cX1_bonusAt 11 = .ok (.getfield 25, 3) := by decide +kernel
theorem dX1_bonusAt_14 : decode cX1_bonusAt 14 = .ok (.i2l, 1) := by decide +kernel
theorem dX1_bonusAt_15 : decode cX1_bonusAt 15 = .ok (.ldc2_w 39, 3) := by decide +kernel
theorem dX1_bonusAt_18 : decode cX1_bonusAt 18 = .ok (.lmul, 1) := by decide +kernel
theorem dX1_bonusAt_19 : decode cX1_bonusAt 19 = .ok (.goto 4, 3) := by decide +kernel
theorem dX1_bonusAt_22 : decode cX1_bonusAt 22 = .ok (.lconst 0, 1) := by decide +kernel
theorem dX1_bonusAt_23 : decode cX1_bonusAt 23 = .ok (.lreturn, 1) := by decide +kernel
set_option maxRecDepth 20000 in
theorem ggX2_init_X0_init : GoodIn wsX2_init wsX0_init := goodIn_r _ [16, 17, 2, 3, 18, 19, 20, 21, 22, 23, 10, 11, 24, 25, 26, 27, 28, 29, 30, 31, 32, 33, 34, 35, 36, 37, 38, 39, 40, 41, 42, 44, 45, 46, 47, 48, 49, 50, 51, 52, 53, 54, 55, 56, 57, 58, 64, 65, 66] (by decide +kernel) (by decide +kernel)
set_option maxRecDepth 20000 in
theorem gX2_init_X0_init_n9 : GoodIn wsX2_init (wsX0_init) := ggX2_init_X0_init
set_option maxRecDepth 20000 in
theorem ggX2_init_Jx4a65c_init_da8c8 : GoodIn wsX2_init wsJx4a65c_init_da8c8 := goodIn_r _ [30, 31, 32, 33, 34, 35, 36, 37, 38, 39, 40, 41, 42, 2, 3, 64, 65, 66] (by decide +kernel) (by decide +kernel)
set_option maxRecDepth 20000 in
theorem gX2_init_Jx4a65c_init_da8c8 : GoodIn wsX2_init (wsJx4a65c_init_da8c8) := ggX2_init_Jx4a65c_init_da8c8
theorem dX2_init_0 : decode cX2_init 0 = .ok (.aload_n 0, 1) := by decide +kernel
theorem dX2_init_1 : decode cX2_init 1 = .ok (.invokespecial 1, 3) := by decide +kernel
theorem dX2_init_4 : decode cX2_init 4 = .ok (.aload_n 0, 1) := by decide +kernel
theorem dX2_init_5 : decode cX2_init 5 = .ok (.new 7, 3) := by decide +kernel
theorem dX2_init_8 : decode cX2_init 8 = .ok (.dup, 1) := by decide +kernel
theorem dX2_init_9 : decode cX2_init 9 = .ok (.invokespecial 9, 3) := by decide +kernel
theorem dX2_init_12 : decode cX2_init 12 = .ok (.putfield 10, 3) := by decide +kernel
theorem dX2_init_15 : decode cX2_init 15 = .ok (.aload_n 0, 1) := by decide +kernel
theorem dX2_init_16 : decode cX2_init 16 = .ok (.new 7, 3) := by decide +kernel
theorem dX2_init_19 : decode cX2_init 19 = .ok (.dup, 1) := by decide +kernel
theorem dX2_init_20 : decode cX2_init 20 = .ok (.invokespecial 9, 3) := by decide +kernel
theorem dX2_init_23 : decode cX2_init 23 = .ok (.putfield 16, 3) := by decide +kernel
theorem dX2_init_26 : decode cX2_init 26 = .ok (.aload_n 0, 1) := by decide +kernel
theorem dX2_init_27 : decode cX2_init 27 = .ok (.new 19, 3) := by decide +kernel
theorem dX2_init_30 : decode cX2_init 30 = .ok (.dup, 1) := by decide +kernel
theorem dX2_init_31 : decode cX2_init 31 = .ok (.invokespecial 21, 3) := by decide +kernel
theorem dX2_init_34 : decode cX2_init 34 = .ok (.putfield 22, 3) := by decide +kernel
theorem dX2_init_37 : decode cX2_init 37 = .ok (.aload_n 0, 1) := by decide +kernel
theorem dX2_init_38 : decode cX2_init 38 = .ok (.iconst 0, 1) := by decide +kernel
theorem dX2_init_39 : decode cX2_init 39 = .ok (.putfield 26, 3) := by decide +kernel
theorem dX2_init_42 : decode cX2_init 42 = .ok (.aload_n 0, 1) := by decide +kernel
theorem dX2_init_43 : decode cX2_init 43 = .ok (.iconst 0, 1) := by decide +kernel
theorem dX2_init_44 : decode cX2_init 44 = .ok (.putfield 30, 3) := by decide +kernel
theorem dX2_init_47 : decode cX2_init 47 = .ok (.return_, 1) := by decide +kernel
set_option maxRecDepth 20000 in
theorem ggX2_setRates_X2_requirePicture : GoodIn wsX2_setRates wsX2_requirePicture := goodIn_ca (goodIn_r _ [7, 8, 9] (by decide +kernel) (by decide +kernel)) (goodIn_sub (fun _ h => List.mem_cons_of_mem _ (List.mem_append_left _ (List.mem_append_right _ h))) (by decide +kernel))
set_option maxRecDepth 20000 in
theorem gX2_setRates_X2_requirePicture : GoodIn wsX2_setRates (va_wsS RX2 34 yX2_requirePicture wsX2_requirePicture) := goodIn_app (goodIn_of _ (by decide +kernel)) ggX2_setRates_X2_requirePicture
set_option maxRecDepth 20000 in
theorem ggX2_setRates_X2_requireRange : GoodIn wsX2_setRates wsX2_requireRange := goodIn_ca (goodIn_r _ [12, 13, 14] (by decide +kernel) (by decide +kernel)) (goodIn_sub (fun _ h => List.mem_cons_of_mem _ (List.mem_append_right _ h)) (by decide +kernel))
set_option maxRecDepth 20000 in
theorem gX2_setRates_X2_requireRange : GoodIn wsX2_setRates (va_wsS RX2 38 yX2_requireRange wsX2_requireRange) := goodIn_app (goodIn_of _ (by decide +kernel)) ggX2_setRates_X2_requireRange
set_option maxRecDepth 20000 in
theorem ggX2_setRates_X2_pictureOf : GoodIn wsX2_setRates wsX2_pictureOf := goodIn_r _ [18, 19, 20, 36, 37, 38, 39, 40] (by decide +kernel) (by decide +kernel)
set_option maxRecDepth 20000 in
theorem gX2_setRates_X2_pictureOf : GoodIn wsX2_setRates (wsV RX2 42 RX2 yX2_pictureOf wsX2_pictureOf) := goodIn_app (goodIn_of _ (by decide +kernel)) ggX2_setRates_X2_pictureOf
theorem dX2_setRates_0 : decode cX2_setRates 0 = .ok (.iload_n 1, 1) := by decide +kernel
theorem dX2_setRates_1 : decode cX2_setRates 1 = .ok (.invokestatic 34, 3) := by decide +kernel
theorem dX2_setRates_4 : decode cX2_setRates 4 = .ok (.iload_n 2, 1) := by decide +kernel
theorem dX2_setRates_5 : decode cX2_setRates 5 = .ok (.iconst 0, 1) := by decide +kernel
theorem dX2_setRates_6 : decode cX2_setRates 6 = .ok (.sipush 10000, 3) := by decide +kernel
theorem dX2_setRates_9 : decode cX2_setRates 9 = .ok (.invokestatic 38, 3) := by decide +kernel
theorem dX2_setRates_12 : decode cX2_setRates 12 = .ok (.iload_n 3, 1) := by decide +kernel
theorem dX2_setRates_13 : decode cX2_setRates 13 = .ok (.iconst 0, 1) := by decide +kernel
theorem dX2_setRates_14 : decode cX2_setRates 14 = .ok (.sipush 10000, 3) := by decide +kernel
theorem dX2_setRates_17 : decode cX2_setRates 17 = .ok (.invokestatic 38, 3) := by decide +kernel
theorem dX2_setRates_20 : decode cX2_setRates 20 = .ok (.iload 4, 2) := by decide +kernel
theorem dX2_setRates_22 : decode cX2_setRates 22 = .ok (.iconst 0, 1) := by decide +kernel
theorem dX2_setRates_23 : decode cX2_setRates 23 = .ok (.sipush 2000, 3) := by decide +kernel
theorem dX2_setRates_26 : decode cX2_setRates 26 = .ok (.invokestatic 38, 3) := by decide +kernel
theorem dX2_setRates_29 : decode cX2_setRates 29 = .ok (.aload_n 0, 1) := by decide +kernel
theorem dX2_setRates_30 : decode cX2_setRates 30 = .ok (.iload_n 1, 1) := by decide +kernel
theorem dX2_setRates_31 : decode cX2_setRates 31 = .ok (.invokevirtual 42, 3) := by decide +kernel
theorem dX2_setRates_34 : decode cX2_setRates 34 = .ok (.astore 5, 2) := by decide +kernel
theorem dX2_setRates_36 : decode cX2_setRates 36 = .ok (.aload 5, 2) := by decide +kernel
theorem dX2_setRates_38 : decode cX2_setRates 38 = .ok (.iload_n 2, 1) := by decide +kernel
theorem dX2_setRates_39 : decode cX2_setRates 39 = .ok (.putfield 46, 3) := by decide +kernel
theorem dX2_setRates_42 : decode cX2_setRates 42 = .ok (.aload 5, 2) := by decide +kernel
theorem dX2_setRates_44 : decode cX2_setRates 44 = .ok (.iload_n 3, 1) := by decide +kernel
theorem dX2_setRates_45 : decode cX2_setRates 45 = .ok (.putfield 49, 3) := by decide +kernel
theorem dX2_setRates_48 : decode cX2_setRates 48 = .ok (.aload 5, 2) := by decide +kernel
theorem dX2_setRates_50 : decode cX2_setRates 50 = .ok (.iload 4, 2) := by decide +kernel
theorem dX2_setRates_52 : decode cX2_setRates 52 = .ok (.putfield 52, 3) := by decide +kernel
theorem dX2_setRates_55 : decode cX2_setRates 55 = .ok (.return_, 1) := by decide +kernel
set_option maxRecDepth 20000 in
theorem ggX2_setFee_X2_requirePicture : GoodIn wsX2_setFee wsX2_requirePicture := goodIn_ca (goodIn_r _ [5, 6, 7] (by decide +kernel) (by decide +kernel)) (goodIn_sub (fun _ h => List.mem_cons_of_mem _ (List.mem_append_left _ (List.mem_append_right _ h))) (by decide +kernel))
set_option maxRecDepth 20000 in
theorem gX2_setFee_X2_requirePicture : GoodIn wsX2_setFee (va_wsS RX2 34 yX2_requirePicture wsX2_requirePicture) := goodIn_app (goodIn_of _ (by decide +kernel)) ggX2_setFee_X2_requirePicture
set_option maxRecDepth 20000 in
theorem ggX2_setFee_X2_requireWindow : GoodIn wsX2_setFee wsX2_requireWindow := goodIn_ca (goodIn_r _ [10, 6, 7] (by decide +kernel) (by decide +kernel)) (goodIn_sub (fun _ h => List.mem_cons_of_mem _ (List.mem_append_left _ (List.mem_append_right _ h))) (by decide +kernel))
set_option maxRecDepth 20000 in
theorem gX2_setFee_X2_requireWindow : GoodIn wsX2_setFee (va_wsS RX2 55 yX2_requireWindow wsX2_requireWindow) := goodIn_app (goodIn_of _ (by decide +kernel)) ggX2_setFee_X2_requireWindow
set_option maxRecDepth 20000 in
theorem ggX2_setFee_X2_requireRange : GoodIn wsX2_setFee wsX2_requireRange := goodIn_ca (goodIn_r _ [13, 14, 15] (by decide +kernel) (by decide +kernel)) (goodIn_sub (fun _ h => List.mem_cons_of_mem _ (List.mem_append_right _ h)) (by decide +kernel))
set_option maxRecDepth 20000 in
theorem gX2_setFee_X2_requireRange : GoodIn wsX2_setFee (va_wsS RX2 38 yX2_requireRange wsX2_requireRange) := goodIn_app (goodIn_of _ (by decide +kernel)) ggX2_setFee_X2_requireRange
set_option maxRecDepth 20000 in
theorem ggX2_setFee_X2_pictureOf : GoodIn wsX2_setFee wsX2_pictureOf := goodIn_r _ [19, 20, 21, 37, 38, 39, 40, 41] (by decide +kernel) (by decide +kernel)
set_option maxRecDepth 20000 in
theorem gX2_setFee_X2_pictureOf : GoodIn wsX2_setFee (wsV RX2 42 RX2 yX2_pictureOf wsX2_pictureOf) := goodIn_app (goodIn_of _ (by decide +kernel)) ggX2_setFee_X2_pictureOf
theorem dX2_setFee_0 : decode cX2_setFee 0 = .ok (.iload_n 1, 1) := by decide +kernel
theorem dX2_setFee_1 : decode cX2_setFee 1 = .ok (.invokestatic 34, 3) := by decide +kernel
theorem dX2_setFee_4 : decode cX2_setFee 4 = .ok (.iload_n 2, 1) := by decide +kernel
theorem dX2_setFee_5 : decode cX2_setFee 5 = .ok (.invokestatic 55, 3) := by decide +kernel
theorem dX2_setFee_8 : decode cX2_setFee 8 = .ok (.iload_n 3, 1) := by decide +kernel
theorem dX2_setFee_9 : decode cX2_setFee 9 = .ok (.iconst 0, 1) := by decide +kernel
theorem dX2_setFee_10 : decode cX2_setFee 10 = .ok (.sipush 10000, 3) := by decide +kernel
theorem dX2_setFee_13 : decode cX2_setFee 13 = .ok (.invokestatic 38, 3) := by decide +kernel
theorem dX2_setFee_16 : decode cX2_setFee 16 = .ok (.aload_n 0, 1) := by decide +kernel
theorem dX2_setFee_17 : decode cX2_setFee 17 = .ok (.iload_n 1, 1) := by decide +kernel
theorem dX2_setFee_18 : decode cX2_setFee 18 = .ok (.invokevirtual 42, 3) := by decide +kernel
theorem dX2_setFee_21 : decode cX2_setFee 21 = .ok (.astore 4, 2) := by decide +kernel
theorem dX2_setFee_23 : decode cX2_setFee 23 = .ok (.aload 4, 2) := by decide +kernel
theorem dX2_setFee_25 : decode cX2_setFee 25 = .ok (.getfield 58, 3) := by decide +kernel
theorem dX2_setFee_28 : decode cX2_setFee 28 = .ok (.iload_n 2, 1) := by decide +kernel
theorem dX2_setFee_29 : decode cX2_setFee 29 = .ok (.iaload, 1) := by decide +kernel
theorem dX2_setFee_30 : decode cX2_setFee 30 = .ok (.istore 5, 2) := by decide +kernel
theorem dX2_setFee_32 : decode cX2_setFee 32 = .ok (.aload 4, 2) := by decide +kernel
theorem dX2_setFee_34 : decode cX2_setFee 34 = .ok (.getfield 58, 3) := by decide +kernel
theorem dX2_setFee_37 : decode cX2_setFee 37 = .ok (.iload_n 2, 1) := by decide +kernel
theorem dX2_setFee_38 : decode cX2_setFee 38 = .ok (.iload_n 3, 1) := by decide +kernel
theorem dX2_setFee_39 : decode cX2_setFee 39 = .ok (.iastore, 1) := by decide +kernel
theorem dX2_setFee_40 : decode cX2_setFee 40 = .ok (.iload 5, 2) := by decide +kernel
theorem dX2_setFee_42 : decode cX2_setFee 42 = .ok (.ireturn, 1) := by decide +kernel
theorem dX2_setCrossed_0 : decode cX2_setCrossed 0 = .ok (.aload_n 0, 1) := by decide +kernel
theorem dX2_setCrossed_1 : decode cX2_setCrossed 1 = .ok (.getfield 26, 3) := by decide +kernel
theorem dX2_setCrossed_4 : decode cX2_setCrossed 4 = .ok (.istore_n 2, 1) := by decide +kernel
theorem dX2_setCrossed_5 : decode cX2_setCrossed 5 = .ok (.aload_n 0, 1) := by decide +kernel
theorem dX2_setCrossed_6 : decode cX2_setCrossed 6 = .ok (.iload_n 1, 1) := by decide +kernel
theorem dX2_setCrossed_7 : decode cX2_setCrossed 7 = .ok (.putfield 26, 3) := by decide +kernel
theorem dX2_setCrossed_10 : decode cX2_setCrossed 10 = .ok (.iload_n 2, 1) := by decide +kernel
theorem dX2_setCrossed_11 : decode cX2_setCrossed 11 = .ok (.ireturn, 1) := by decide +kernel
set_option maxRecDepth 20000 in
theorem ggX2_add_X2_requirePicture : GoodIn wsX2_add wsX2_requirePicture := goodIn_ca (goodIn_r _ [14, 15, 16] (by decide +kernel) (by decide +kernel)) (goodIn_sub (fun _ h => List.mem_cons_of_mem _ (List.mem_append_left _ (List.mem_append_left _ (List.mem_append_right _ h)))) (by decide +kernel))
set_option maxRecDepth 20000 in
theorem gX2_add_X2_requirePicture : GoodIn wsX2_add (va_wsS RX2 34 yX2_requirePicture wsX2_requirePicture) := goodIn_app (goodIn_of _ (by decide +kernel)) ggX2_add_X2_requirePicture
set_option maxRecDepth 20000 in
theorem ggX2_add_X2_requireRange : GoodIn wsX2_add wsX2_requireRange := goodIn_ca (goodIn_r _ [19, 20, 21] (by decide +kernel) (by decide +kernel)) (goodIn_sub (fun _ h => List.mem_cons_of_mem _ (List.mem_append_left _ (List.mem_append_right _ h))) (by decide +kernel))
set_option maxRecDepth 20000 in
theorem gX2_add_X2_requireRange : GoodIn wsX2_add (va_wsS RX2 38 yX2_requireRange wsX2_requireRange) := goodIn_app (goodIn_of _ (by decide +kernel)) ggX2_add_X2_requireRange
set_option maxRecDepth 20000 in
theorem ggX2_add_X2_pictureOf : GoodIn wsX2_add wsX2_pictureOf := goodIn_r _ [25, 26, 27, 153, 154, 155, 156, 157] (by decide +kernel) (by decide +kernel)
set_option maxRecDepth 20000 in
theorem gX2_add_X2_pictureOf : GoodIn wsX2_add (wsV RX2 42 RX2 yX2_pictureOf wsX2_pictureOf) := goodIn_app (goodIn_of _ (by decide +kernel)) ggX2_add_X2_pictureOf
set_option maxRecDepth 20000 in
theorem ggX2_add_X2_requireRoom : GoodIn wsX2_add wsX2_requireRoom := goodIn_ca (goodIn_r _ [31, 32, 33, 10, 34, 35, 36, 37, 38, 39, 40, 41, 42, 43, 44, 45, 46, 47, 48, 49, 50, 3, 4, 5, 51, 52, 53, 54, 55, 56, 57, 58, 59, 60, 61, 62, 63, 64, 65, 66, 67, 68, 153, 154, 155, 156, 157, 158, 159, 160, 138, 139, 140, 141, 142, 143, 144, 145, 146, 147, 148, 149, 150, 151, 152, 131, 132, 133, 134, 135, 136, 137] (by decide +kernel) (by decide +kernel)) (goodIn_sub (fun _ h => List.mem_cons_of_mem _ (List.mem_append_right _ h)) (by decide +kernel))
set_option maxRecDepth 20000 in
theorem gX2_add_X2_requireRoom : GoodIn wsX2_add (wsV RX2 69 RX2 yX2_requireRoom wsX2_requireRoom) := goodIn_app (goodIn_of _ (by decide +kernel)) ggX2_add_X2_requireRoom
set_option maxRecDepth 20000 in
theorem ggX2_add_Jx4a65c_size_8abf5 : GoodIn wsX2_add wsJx4a65c_size_8abf5 := goodIn_r _ [38, 39, 158, 159, 160] (by decide +kernel) (by decide +kernel)
set_option maxRecDepth 20000 in
theorem gX2_add_Jx4a65c_size_8abf5 : GoodIn wsX2_add (wsV RX2 78 RJx4a65c yJx4a65c_size_8abf5 wsJx4a65c_size_8abf5) := goodIn_app (goodIn_of _ (by decide +kernel)) ggX2_add_Jx4a65c_size_8abf5
set_option maxRecDepth 20000 in
theorem ggX2_add_X1_init : GoodIn wsX2_add wsX1_init := goodIn_r _ [71, 72, 73, 74, 75, 76, 77, 78, 79, 80, 131, 132, 133, 134, 135, 136, 137] (by decide +kernel) (by decide +kernel)
set_option maxRecDepth 20000 in
theorem gX2_add_X1_init : GoodIn wsX2_add (wsX1_init) := ggX2_add_X1_init
set_option maxRecDepth 20000 in
theorem ggX2_add_Jx4a65c_add_9ea2d : GoodIn wsX2_add wsJx4a65c_add_9ea2d := goodIn_r _ [84, 85, 86, 68, 39, 87, 88, 89, 37, 90, 91, 92, 93, 94, 95, 96, 97, 98, 99, 100, 3, 4, 5, 101, 102, 103, 104, 105, 106, 107, 108, 109, 110, 111, 112, 113, 114, 115, 116, 117, 118, 119, 120, 121, 122, 123, 124, 125, 126, 127, 128, 129, 130, 158, 159, 160] (by decide +kernel) (by decide +kernel)
set_option maxRecDepth 20000 in
theorem gX2_add_Jx4a65c_add_9ea2d : GoodIn wsX2_add (wsV RX2 85 RJx4a65c yJx4a65c_add_9ea2d wsJx4a65c_add_9ea2d) := goodIn_app (goodIn_of _ (by decide +kernel)) ggX2_add_Jx4a65c_add_9ea2d
theorem dX2_add_0 : decode cX2_add 0 = .ok (.iload_n 1, 1) := by decide +kernel
theorem dX2_add_1 : decode cX2_add 1 = .ok (.invokestatic 34, 3) := by decide +kernel
theorem dX2_add_4 : decode cX2_add 4 = .ok (.iload_n 2, 1) := by decide +kernel
theorem dX2_add_5 : decode cX2_add 5 = .ok (.iconst 0, 1) := by decide +kernel
theorem dX2_add_6 : decode cX2_add 6 = .ok (.iconst 3, 1) := by decide +kernel
theorem dX2_add_7 : decode cX2_add 7 = .ok (.invokestatic 38, 3) := by decide +kernel
theorem dX2_add_10 : decode cX2_add 10 = .ok (.iload_n 3, 1) := by decide +kernel
theorem dX2_add_11 : decode cX2_add 11 = .ok (.iconst 0, 1) := by decide +kernel
theorem dX2_add_12 : decode cX2_add 12 = .ok (.ldc 62, 2) := by decide +kernel
theorem dX2_add_14 : decode cX2_add 14 = .ok (.invokestatic 38, 3) := by decide +kernel
theorem dX2_add_17 : decode cX2_add 17 = .ok (.iload_n 2, 1) := by decide +kernel
theorem dX2_add_18 : decode cX2_add 18 = .ok (.ifCond .ne 9, 3) := by decide +kernel
theorem dX2_add_21 : decode cX2_add 21 = .ok (.sipush 1000, 3) := by decide +kernel
theorem dX2_add_24 : decode cX2_add 24 = .ok (.goto 6, 3) := by decide +kernel
theorem dX2_add_27 : decode cX2_add 27 = .ok (.sipush 10000, 3) := by decide +kernel
theorem dX2_add_30 : decode cX2_add 30 = .ok (.istore 6, 2) := by decide +kernel
theorem dX2_add_32 : decode cX2_add 32 = .ok (.iload 4, 2) := by decide +kernel
theorem dX2_add_34 : decode cX2_add 34 = .ok (.iconst 0, 1) := by decide +kernel
theorem dX2_add_35 : decode cX2_add 35 = .ok (.iload 6, 2) := by decide +kernel
theorem dX2_add_37 : decode cX2_add 37 = .ok (.invokestatic 38, 3) := by decide +kernel
theorem dX2_add_40 : decode cX2_add 40 = .ok (.iload 5, 2) := by decide +kernel
theorem dX2_add_42 : decode cX2_add 42 = .ok (.iconst 0, 1) := by decide +kernel
theorem dX2_add_43 : decode cX2_add 43 = .ok (.iload 6, 2) := by decide +kernel
theorem dX2_add_45 : decode cX2_add 45 = .ok (.invokestatic 38, 3) := by decide +kernel
theorem dX2_add_48 : decode cX2_add 48 = .ok (.aload_n 0, 1) := by decide +kernel
theorem dX2_add_49 : decode cX2_add 49 = .ok (.iload_n 1, 1) := by decide +kernel
theorem dX2_add_50 : decode cX2_add 50 = .ok (.invokevirtual 42, 3) := by decide +kernel
theorem dX2_add_53 : decode cX2_add 53 = .ok (.astore 7, 2) := by decide +kernel
theorem dX2_add_55 : decode cX2_add 55 = .ok (.aload_n 0, 1) := by decide +kernel
theorem dX2_add_56 : decode cX2_add 56 = .ok (.aload 7, 2) := by decide +kernel
theorem dX2_add_58 : decode cX2_add 58 = .ok (.iload_n 2, 1) := by decide +kernel
theorem dX2_add_59 : decode cX2_add 59 = .ok (.iload 4, 2) := by decide +kernel
theorem dX2_add_61 : decode cX2_add 61 = .ok (.iload 5, 2) := by decide +kernel
theorem dX2_add_63 : decode cX2_add 63 = .ok (.invokestatic 63, 3) := by decide +kernel
theorem dX2_add_66 : decode cX2_add 66 = .ok (.invokevirtual 69, 3) := by decide +kernel
theorem dX2_add_69 : decode cX2_add 69 = .ok (.new 73, 3) := by decide +kernel
theorem dX2_add_72 : decode cX2_add 72 = .ok (.dup, 1) := by decide +kernel
theorem dX2_add_73 : decode cX2_add 73 = .ok (.aload 7, 2) := by decide +kernel
theorem dX2_add_75 : decode cX2_add 75 = .ok (.aload 7, 2) := by decide +kernel
theorem dX2_add_77 : decode cX2_add 77 = .ok (.getfield 75, 3) := by decide +kernel
theorem dX2_add_80 : decode cX2_add 80 = .ok (.invokevirtual 78, 3) := by decide +kernel
theorem dX2_add_83 : decode cX2_add 83 = .ok (.iload_n 2, 1) := by decide +kernel
theorem dX2_add_84 : decode cX2_add 84 = .ok (.iload_n 3, 1) := by decide +kernel
theorem dX2_add_85 : decode cX2_add 85 = .ok (.iload 4, 2) := by decide +kernel
theorem dX2_add_87 : decode cX2_add 87 = .ok (.iload 5, 2) := by decide +kernel
theorem dX2_add_89 : decode cX2_add 89 = .ok (.invokespecial 82, 3) := by decide +kernel
theorem dX2_add_92 : decode cX2_add 92 = .ok (.astore 8, 2) := by decide +kernel
theorem dX2_add_94 : decode cX2_add 94 = .ok (.aload 7, 2) := by decide +kernel
theorem dX2_add_96 : decode cX2_add 96 = .ok (.getfield 75, 3) := by decide +kernel
theorem dX2_add_99 : decode cX2_add 99 = .ok (.aload 8, 2) := by decide +kernel
theorem dX2_add_101 : decode cX2_add 101 = .ok (.invokevirtual 85, 3) := by decide +kernel
theorem dX2_add_104 : decode cX2_add 104 = .ok (.pop, 1) := by decide +kernel
theorem dX2_add_105 : decode cX2_add 105 = .ok (.aload_n 0, 1) := by decide +kernel
theorem dX2_add_106 : decode cX2_add 106 = .ok (.getfield 22, 3) := by decide +kernel
theorem dX2_add_109 : decode cX2_add 109 = .ok (.aload 8, 2) := by decide +kernel
theorem dX2_add_111 : decode cX2_add 111 = .ok (.invokevirtual 85, 3) := by decide +kernel
theorem dX2_add_114 : decode cX2_add 114 = .ok (.pop, 1) := by decide +kernel
theorem dX2_add_115 : decode cX2_add 115 = .ok (.aload_n 0, 1) := by decide +kernel
theorem dX2_add_116 : decode cX2_add 116 = .ok (.getfield 22, 3) := by decide +kernel
theorem dX2_add_119 : decode cX2_add 119 = .ok (.invokevirtual 78, 3) := by decide +kernel
theorem dX2_add_122 : decode cX2_add 122 = .ok (.iconst 1, 1) := by decide +kernel
theorem dX2_add_123 : decode cX2_add 123 = .ok (.isub, 1) := by decide +kernel
theorem dX2_add_124 : decode cX2_add 124 = .ok (.ireturn, 1) := by decide +kernel
set_option maxRecDepth 20000 in
theorem ggX2_receive_X2_requirePicture : GoodIn wsX2_receive wsX2_requirePicture := goodIn_ca (goodIn_r _ [7, 8, 9] (by decide +kernel) (by decide +kernel)) (goodIn_sub (fun _ h => List.mem_cons_of_mem _ (List.mem_append_left _ (List.mem_append_right _ h))) (by decide +kernel))
set_option maxRecDepth 20000 in
theorem gX2_receive_X2_requirePicture : GoodIn wsX2_receive (va_wsS RX2 34 yX2_requirePicture wsX2_requirePicture) := goodIn_app (goodIn_of _ (by decide +kernel)) ggX2_receive_X2_requirePicture
set_option maxRecDepth 20000 in
theorem ggX2_receive_X2_requireWindow : GoodIn wsX2_receive wsX2_requireWindow := goodIn_ca (goodIn_r _ [12, 8, 9] (by decide +kernel) (by decide +kernel)) (goodIn_sub (fun _ h => List.mem_cons_of_mem _ (List.mem_append_left _ (List.mem_append_right _ h))) (by decide +kernel))
set_option maxRecDepth 20000 in
theorem gX2_receive_X2_requireWindow : GoodIn wsX2_receive (va_wsS RX2 55 yX2_requireWindow wsX2_requireWindow) := goodIn_app (goodIn_of _ (by decide +kernel)) ggX2_receive_X2_requireWindow
set_option maxRecDepth 20000 in
theorem ggX2_receive_X2_requireRange : GoodIn wsX2_receive wsX2_requireRange := goodIn_ca (goodIn_r _ [15, 16, 17] (by decide +kernel) (by decide +kernel)) (goodIn_sub (fun _ h => List.mem_cons_of_mem _ (List.mem_append_right _ h)) (by decide +kernel))
set_option maxRecDepth 20000 in
theorem gX2_receive_X2_requireRange : GoodIn wsX2_receive (va_wsS RX2 38 yX2_requireRange wsX2_requireRange) := goodIn_app (goodIn_of _ (by decide +kernel)) ggX2_receive_X2_requireRange
set_option maxRecDepth 20000 in
theorem ggX2_receive_X2_pictureOf : GoodIn wsX2_receive wsX2_pictureOf := goodIn_r _ [21, 22, 23, 39, 40, 41, 42, 43] (by decide +kernel) (by decide +kernel)
set_option maxRecDepth 20000 in
theorem gX2_receive_X2_pictureOf : GoodIn wsX2_receive (wsV RX2 42 RX2 yX2_pictureOf wsX2_pictureOf) := goodIn_app (goodIn_of _ (by decide +kernel)) ggX2_receive_X2_pictureOf
theorem dX2_receive_0 : decode cX2_receive 0 = .ok (.iload_n 1, 1) := by decide +kernel
theorem dX2_receive_1 : decode cX2_receive 1 = .ok (.invokestatic 34, 3) := by decide +kernel
theorem dX2_receive_4 : decode cX2_receive 4 = .ok (.iload_n 2, 1) := by decide +kernel
theorem dX2_receive_5 : decode cX2_receive 5 = .ok (.invokestatic 55, 3) := by decide +kernel
theorem dX2_receive_8 : decode cX2_receive 8 = .ok (.iload_n 3, 1) := by decide +kernel
theorem dX2_receive_9 : decode cX2_receive 9 = .ok (.iconst 1, 1) := by decide +kernel
theorem dX2_receive_10 : decode cX2_receive 10 = .ok (.ldc 89, 2) := by decide +kernel
theorem dX2_receive_12 : decode cX2_receive 12 = .ok (.invokestatic 38, 3) := by decide +kernel
theorem dX2_receive_15 : decode cX2_receive 15 = .ok (.aload_n 0, 1) := by decide +kernel
theorem dX2_receive_16 : decode cX2_receive 16 = .ok (.iload_n 1, 1) := by decide +kernel
theorem dX2_receive_17 : decode cX2_receive 17 = .ok (.invokevirtual 42, 3) := by decide +kernel
theorem dX2_receive_20 : decode cX2_receive 20 = .ok (.getfield 90, 3) := by decide +kernel
theorem dX2_receive_23 : decode cX2_receive 23 = .ok (.aload_n 0, 1) := by decide +kernel
theorem dX2_receive_24 : decode cX2_receive 24 = .ok (.getfield 30, 3) := by decide +kernel
theorem dX2_receive_27 : decode cX2_receive 27 = .ok (.aaload, 1) := by decide +kernel
theorem dX2_receive_28 : decode cX2_receive 28 = .ok (.astore 4, 2) := by decide +kernel
theorem dX2_receive_30 : decode cX2_receive 30 = .ok (.aload 4, 2) := by decide +kernel
theorem dX2_receive_32 : decode cX2_receive 32 = .ok (.iload_n 2, 1) := by decide +kernel
theorem dX2_receive_33 : decode cX2_receive 33 = .ok (.dup2, 1) := by decide +kernel
theorem dX2_receive_34 : decode cX2_receive 34 = .ok (.iaload, 1) := by decide +kernel
theorem dX2_receive_35 : decode cX2_receive 35 = .ok (.iload_n 3, 1) := by decide +kernel
theorem dX2_receive_36 : decode cX2_receive 36 = .ok (.iadd, 1) := by decide +kernel
theorem dX2_receive_37 : decode cX2_receive 37 = .ok (.iastore, 1) := by decide +kernel
theorem dX2_receive_38 : decode cX2_receive 38 = .ok (.aload 4, 2) := by decide +kernel
theorem dX2_receive_40 : decode cX2_receive 40 = .ok (.iload_n 2, 1) := by decide +kernel
theorem dX2_receive_41 : decode cX2_receive 41 = .ok (.iaload, 1) := by decide +kernel
theorem dX2_receive_42 : decode cX2_receive 42 = .ok (.ireturn, 1) := by decide +kernel
set_option maxRecDepth 20000 in
theorem ggX2_spend_X2_requirePicture : GoodIn wsX2_spend wsX2_requirePicture := goodIn_ca (goodIn_r _ [7, 8, 9] (by decide +kernel) (by decide +kernel)) (goodIn_sub (fun _ h => List.mem_cons_of_mem _ (List.mem_append_left _ (List.mem_append_right _ h))) (by decide +kernel))
set_option maxRecDepth 20000 in
theorem gX2_spend_X2_requirePicture : GoodIn wsX2_spend (va_wsS RX2 34 yX2_requirePicture wsX2_requirePicture) := goodIn_app (goodIn_of _ (by decide +kernel)) ggX2_spend_X2_requirePicture
set_option maxRecDepth 20000 in
theorem ggX2_spend_X2_requireRange : GoodIn wsX2_spend wsX2_requireRange := goodIn_ca (goodIn_r _ [12, 13, 14] (by decide +kernel) (by decide +kernel)) (goodIn_sub (fun _ h => List.mem_cons_of_mem _ (List.mem_append_right _ h)) (by decide +kernel))
set_option maxRecDepth 20000 in
theorem gX2_spend_X2_requireRange : GoodIn wsX2_spend (va_wsS RX2 38 yX2_requireRange wsX2_requireRange) := goodIn_app (goodIn_of _ (by decide +kernel)) ggX2_spend_X2_requireRange
set_option maxRecDepth 20000 in
theorem ggX2_spend_X2_pictureOf : GoodIn wsX2_spend wsX2_pictureOf := goodIn_r _ [18, 19, 20, 36, 37, 38, 39, 40] (by decide +kernel) (by decide +kernel)
set_option maxRecDepth 20000 in
theorem gX2_spend_X2_pictureOf : GoodIn wsX2_spend (wsV RX2 42 RX2 yX2_pictureOf wsX2_pictureOf) := goodIn_app (goodIn_of _ (by decide +kernel)) ggX2_spend_X2_pictureOf
theorem dX2_spend_0 : decode cX2_spend 0 = .ok (.iload_n 1, 1) := by decide +kernel
theorem dX2_spend_1 : decode cX2_spend 1 = .ok (.invokestatic 34, 3) := by decide +kernel
theorem dX2_spend_4 : decode cX2_spend 4 = .ok (.iload_n 2, 1) := by decide +kernel
theorem dX2_spend_5 : decode cX2_spend 5 = .ok (.iconst 1, 1) := by decide +kernel
theorem dX2_spend_6 : decode cX2_spend 6 = .ok (.ldc 89, 2) := by decide +kernel
theorem dX2_spend_8 : decode cX2_spend 8 = .ok (.invokestatic 38, 3) := by decide +kernel
theorem dX2_spend_11 : decode cX2_spend 11 = .ok (.aload_n 0, 1) := by decide +kernel
theorem dX2_spend_12 : decode cX2_spend 12 = .ok (.iload_n 1, 1) := by decide +kernel
theorem dX2_spend_13 : decode cX2_spend 13 = .ok (.invokevirtual 42, 3) := by decide +kernel
theorem dX2_spend_16 : decode cX2_spend 16 = .ok (.getfield 94, 3) := by decide +kernel
theorem dX2_spend_19 : decode cX2_spend 19 = .ok (.astore_n 3, 1) := by decide +kernel
theorem dX2_spend_20 : decode cX2_spend 20 = .ok (.aload_n 3, 1) := by decide +kernel
theorem dX2_spend_21 : decode cX2_spend 21 = .ok (.aload_n 0, 1) := by decide +kernel
theorem dX2_spend_22 : decode cX2_spend 22 = .ok (.getfield 30, 3) := by decide +kernel
theorem dX2_spend_25 : decode cX2_spend 25 = .ok (.dup2, 1) := by decide +kernel
theorem dX2_spend_26 : decode cX2_spend 26 = .ok (.iaload, 1) := by decide +kernel
theorem dX2_spend_27 : decode cX2_spend 27 = .ok (.iload_n 2, 1) := by decide +kernel
theorem dX2_spend_28 : decode cX2_spend 28 = .ok (.iadd, 1) := by decide +kernel
theorem dX2_spend_29 : decode cX2_spend 29 = .ok (.iastore, 1) := by decide +kernel
theorem dX2_spend_30 : decode cX2_spend 30 = .ok (.aload_n 3, 1) := by decide +kernel
theorem dX2_spend_31 : decode cX2_spend 31 = .ok (.aload_n 0, 1) := by decide +kernel
theorem dX2_spend_32 : decode cX2_spend 32 = .ok (.getfield 30, 3) := by decide +kernel
theorem dX2_spend_35 : decode cX2_spend 35 = .ok (.iaload, 1) := by decide +kernel
theorem dX2_spend_36 : decode cX2_spend 36 = .ok (.ireturn, 1) := by decide +kernel
theorem dX2_closeYear_0 : decode cX2_closeYear 0 = .ok (.aload_n 0, 1) := by decide +kernel
theorem dX2_closeYear_1 : decode cX2_closeYear 1 = .ok (.getfield 30, 3) := by decide +kernel
theorem dX2_closeYear_4 : decode cX2_closeYear 4 = .ok (.bipush 9, 2) := by decide +kernel
theorem dX2_closeYear_6 : decode cX2_closeYear 6 = .ok (.if_icmp .lt 13, 3) := by decide +kernel
theorem dX2_closeYear_9 : decode cX2_closeYear 9 = .ok (.new 101, 3) := by decide +kernel
theorem dX2_closeYear_12 : decode cX2_closeYear 12 = .ok (.dup, 1) := by decide +kernel
theorem dX2_closeYear_13 : decode cX2_closeYear 13 = .ok (.ldc 103, 2) := by decide +kernel
theorem dX2_closeYear_15 : decode cX2_closeYear 15 = .ok (.invokespecial 105, 3) := by decide +kernel
theorem dX2_closeYear_18 : decode cX2_closeYear 18 = .ok (.athrow, 1) := by decide +kernel
theorem dX2_closeYear_19 : decode cX2_closeYear 19 = .ok (.aload_n 0, 1) := by decide +kernel
theorem dX2_closeYear_20 : decode cX2_closeYear 20 = .ok (.dup, 1) := by decide +kernel
theorem dX2_closeYear_21 : decode cX2_closeYear 21 = .ok (.getfield 30, 3) := by decide +kernel
theorem dX2_closeYear_24 : decode cX2_closeYear 24 = .ok (.iconst 1, 1) := by decide +kernel
theorem dX2_closeYear_25 : decode cX2_closeYear 25 = .ok (.iadd, 1) := by decide +kernel
theorem dX2_closeYear_26 : decode cX2_closeYear 26 = .ok (.putfield 30, 3) := by decide +kernel
theorem dX2_closeYear_29 : decode cX2_closeYear 29 = .ok (.aload_n 0, 1) := by decide +kernel
theorem dX2_closeYear_30 : decode cX2_closeYear 30 = .ok (.getfield 30, 3) := by decide +kernel
theorem dX2_closeYear_33 : decode cX2_closeYear 33 = .ok (.ireturn, 1) := by decide +kernel
set_option maxRecDepth 20000 in
theorem ggX2_pay_X2_requireSharer : GoodIn wsX2_pay wsX2_requireSharer := goodIn_ca (goodIn_r _ [10, 11, 12, 3, 13, 14, 15, 16, 17, 18, 133, 134, 135, 136, 137, 145, 146, 147] (by decide +kernel) (by decide +kernel)) (goodIn_sub (fun _ h => List.mem_cons_of_mem _ (List.mem_append_right _ h)) (by decide +kernel))
set_option maxRecDepth 20000 in
theorem gX2_pay_X2_requireSharer : GoodIn wsX2_pay (wsV RX2 108 RX2 yX2_requireSharer wsX2_requireSharer) := goodIn_app (goodIn_of _ (by decide +kernel)) ggX2_pay_X2_requireSharer
set_option maxRecDepth 20000 in
theorem ggX2_pay_Jx4a65c_get_915e3 : GoodIn wsX2_pay wsJx4a65c_get_915e3 := goodIn_r _ [22, 18, 23, 24, 25, 26, 27, 28, 29, 30, 31, 32, 33, 16, 34, 35, 145, 146, 147] (by decide +kernel) (by decide +kernel)
set_option maxRecDepth 20000 in
theorem gX2_pay_Jx4a65c_get_915e3 : GoodIn wsX2_pay (wsV RX2 111 RJx4a65c yJx4a65c_get_915e3 wsJx4a65c_get_915e3) := goodIn_app (goodIn_of _ (by decide +kernel)) ggX2_pay_Jx4a65c_get_915e3
set_option maxRecDepth 20000 in
theorem ggX2_pay_X2_drawnSum : GoodIn wsX2_pay wsX2_drawnSum := goodIn_r _ [39, 40, 41, 42, 43, 9, 44, 45, 46, 47, 48, 49, 50, 51, 52, 53, 54, 55, 56, 57, 58, 59, 60, 61, 62, 63, 64, 65, 66, 67, 68, 69, 70, 71, 72, 73, 74, 75, 76, 77, 78, 79, 80, 81, 82, 83, 84, 85, 86, 87, 14, 15, 16, 17, 18, 88, 20, 21, 22, 23, 24, 25, 26, 27, 28, 29, 30, 31, 32, 33, 34, 35, 89, 90, 91, 92, 93, 94, 95, 96, 97, 98, 99, 100, 101, 102, 103, 104, 105, 106, 107, 108, 109, 110, 111, 112, 113, 114, 115, 116, 117, 118, 119, 120, 121, 122, 123, 124, 125, 126, 127, 128, 129, 130, 131, 132, 138, 139, 140, 141, 142, 143, 144, 133, 134, 135, 136, 137, 148, 149, 150, 151, 152, 153, 154, 155, 156, 157, 158, 159, 160, 161, 162, 145, 146, 147] (by decide +kernel) (by decide +kernel)
set_option maxRecDepth 20000 in
theorem gX2_pay_X2_drawnSum : GoodIn wsX2_pay (wsV RX2 115 RX2 yX2_drawnSum wsX2_drawnSum) := goodIn_app (goodIn_of _ (by decide +kernel)) ggX2_pay_X2_drawnSum
theorem dX2_pay_0 : decode cX2_pay 0 = .ok (.aload_n 0, 1) := by decide +kernel
theorem dX2_pay_1 : decode cX2_pay 1 = .ok (.iload_n 1, 1) := by decide +kernel
theorem dX2_pay_2 : decode cX2_pay 2 = .ok (.invokevirtual 108, 3) := by decide +kernel
theorem dX2_pay_5 : decode cX2_pay 5 = .ok (.aload_n 0, 1) := by decide +kernel
theorem dX2_pay_6 : decode cX2_pay 6 = .ok (.getfield 22, 3) := by decide +kernel
theorem dX2_pay_9 : decode cX2_pay 9 = .ok (.iload_n 1, 1) := by decide +kernel
theorem dX2_pay_10 : decode cX2_pay 10 = .ok (.invokevirtual 111, 3) := by decide +kernel
theorem dX2_pay_13 : decode cX2_pay 13 = .ok (.checkcast 73, 3) := by decide +kernel
theorem dX2_pay_16 : decode cX2_pay 16 = .ok (.astore_n 2, 1) := by decide +kernel
theorem dX2_pay_17 : decode cX2_pay 17 = .ok (.aload_n 0, 1) := by decide +kernel
theorem dX2_pay_18 : decode cX2_pay 18 = .ok (.aload_n 2, 1) := by decide +kernel
theorem dX2_pay_19 : decode cX2_pay 19 = .ok (.invokevirtual 115, 3) := by decide +kernel
theorem dX2_pay_22 : decode cX2_pay 22 = .ok (.aload_n 2, 1) := by decide +kernel
theorem dX2_pay_23 : decode cX2_pay 23 = .ok (.getfield 119, 3) := by decide +kernel
theorem dX2_pay_26 : decode cX2_pay 26 = .ok (.lsub, 1) := by decide +kernel
theorem dX2_pay_27 : decode cX2_pay 27 = .ok (.lstore_n 3, 1) := by decide +kernel
theorem dX2_pay_28 : decode cX2_pay 28 = .ok (.lload_n 3, 1) := by decide +kernel
theorem dX2_pay_29 : decode cX2_pay 29 = .ok (.lconst 0, 1) := by decide +kernel
theorem dX2_pay_30 : decode cX2_pay 30 = .ok (.lcmp, 1) := by decide +kernel
theorem dX2_pay_31 : decode cX2_pay 31 = .ok (.ifCond .gt 13, 3) := by decide +kernel
theorem dX2_pay_34 : decode cX2_pay 34 = .ok (.new 101, 3) := by decide +kernel
theorem dX2_pay_37 : decode cX2_pay 37 = .ok (.dup, 1) := by decide +kernel
theorem dX2_pay_38 : decode cX2_pay 38 = .ok (.ldc 123, 2) := by decide +kernel
theorem dX2_pay_40 : decode cX2_pay 40 = .ok (.invokespecial 105, 3) := by decide +kernel
theorem dX2_pay_43 : decode cX2_pay 43 = .ok (.athrow, 1) := by decide +kernel
theorem dX2_pay_44 : decode cX2_pay 44 = .ok (.aload_n 2, 1) := by decide +kernel
theorem dX2_pay_45 : decode cX2_pay 45 = .ok (.dup, 1) := by decide +kernel
theorem dX2_pay_46 : decode cX2_pay 46 = .ok (.getfield 119, 3) := by decide +kernel
theorem dX2_pay_49 : decode cX2_pay 49 = .ok (.lload_n 3, 1) := by decide +kernel
theorem dX2_pay_50 : decode cX2_pay 50 = .ok (.ladd, 1) := by decide +kernel
theorem dX2_pay_51 : decode cX2_pay 51 = .ok (.putfield 119, 3) := by decide +kernel
theorem dX2_pay_54 : decode cX2_pay 54 = .ok (.lload_n 3, 1) := by decide +kernel
theorem dX2_pay_55 : decode cX2_pay 55 = .ok (.l2i, 1) := by decide +kernel
theorem dX2_pay_56 : decode cX2_pay 56 = .ok (.ireturn, 1) := by decide +kernel
theorem dX2_year_0 : decode cX2_year 0 = .ok (.aload_n 0, 1) := by decide +kernel
theorem dX2_year_1 : decode cX2_year 1 = .ok (.getfield 30, 3) := by decide +kernel
theorem dX2_year_4 : decode cX2_year 4 = .ok (.ireturn, 1) := by decide +kernel
set_option maxRecDepth 20000 in
theorem ggX2_gross_X2_requirePicture : GoodIn wsX2_gross wsX2_requirePicture := goodIn_ca (goodIn_r _ [5, 6, 7] (by decide +kernel) (by decide +kernel)) (goodIn_sub (fun _ h => List.mem_cons_of_mem _ (List.mem_append_right _ h)) (by decide +kernel))
