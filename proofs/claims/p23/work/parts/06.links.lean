theorem lc_X2_part_191 : Cond.constantLong RX2 191 (10000) ∈ wsX2_part := by decide +kernel
theorem lf_X1_shareOf_22 : Cond.fieldLink RX1 22 "NetPoints$Sharer" "limit" "I" ∈ wsX1_shareOf := by decide +kernel
theorem in_X1_shareOf_2 : ∀ w ∈ u_ws RX1 TX1 7, w ∈ wsX1_shareOf := by decide +kernel
theorem lml_X1_shareOf_31 : Cond.methodLink RX1 31 Lib.MathLoose.min_long.x ∈ wsX1_shareOf := by decide +kernel
theorem lst_X1_shareOf_31 : Cond.static Lib.MathLoose.min_long.x ∈ wsX1_shareOf := by decide +kernel
theorem lini_X1_shareOf_Math : Cond.initialized "java/lang/Math" ∈ wsX1_shareOf := by decide +kernel
theorem lcd_X1_shareOf_31 : Cond.code Lib.MathLoose.min_long.x Lib.MathLoose.min_long.code 4 (some .long) ∈ wsX1_shareOf := by decide +kernel
theorem lf_X1_shareOf_25 : Cond.fieldLink RX1 25 "NetPoints$Sharer" "first" "I" ∈ wsX1_shareOf := by decide +kernel
theorem lf_X1_shareOf_28 : Cond.fieldLink RX1 28 "NetPoints$Sharer" "second" "I" ∈ wsX1_shareOf := by decide +kernel
theorem lc_X1_shareOf_37 : Cond.constantLong RX1 37 (10000) ∈ wsX1_shareOf := by decide +kernel
theorem lf_X1_bonusAt_22 : Cond.fieldLink RX1 22 "NetPoints$Sharer" "limit" "I" ∈ wsX1_bonusAt := by decide +kernel
theorem in_X1_bonusAt_2 : ∀ w ∈ u_ws RX1 TX1 7, w ∈ wsX1_bonusAt := by decide +kernel
theorem lf_X1_bonusAt_25 : Cond.fieldLink RX1 25 "NetPoints$Sharer" "first" "I" ∈ wsX1_bonusAt := by decide +kernel
theorem lc_X1_bonusAt_39 : Cond.constantLong RX1 39 (100) ∈ wsX1_bonusAt := by decide +kernel
theorem lf_Jx4a65c_size_8abf5_48 : Cond.fieldLink RJx4a65c 48 "java/util/ArrayList" "size" "I" ∈ wsJx4a65c_size_8abf5 := by decide +kernel
theorem in_Jx4a65c_size_8abf5_0 : ∀ w ∈ u_ws RJx4a65c TJx4a65c 3, w ∈ wsJx4a65c_size_8abf5 := by decide +kernel
theorem hdS_J3_checkIndex_8e157 : yJ3_checkIndex_8e157.cls ≠ "java/lang/invoke/MethodHandle" ∧ yJ3_checkIndex_8e157.cls ≠ "java/lang/invoke/VarHandle" ∧ (parseMethodDescriptor yJ3_checkIndex_8e157.desc).map (fun d => d.parameters.length) = some 3 := by decide +kernel
theorem lf_Jx4a65c_elementData_915e3_9 : Cond.fieldLink RJx4a65c 9 "java/util/ArrayList" "elementData" "[Ljava/lang/Object;" ∈ wsJx4a65c_elementData_915e3 := by decide +kernel
theorem in_Jx4a65c_elementData_915e3_0 : ∀ w ∈ u_ws RJx4a65c TJx4a65c 3, w ∈ wsJx4a65c_elementData_915e3 := by decide +kernel
theorem lf_Jx4a65c_get_915e3_48 : Cond.fieldLink RJx4a65c 48 "java/util/ArrayList" "size" "I" ∈ wsJx4a65c_get_915e3 := by decide +kernel
theorem in_Jx4a65c_get_915e3_0 : ∀ w ∈ u_ws RJx4a65c TJx4a65c 3, w ∈ wsJx4a65c_get_915e3 := by decide +kernel
theorem hdS_J15_checkIndex_7cf53 : yJ15_checkIndex_7cf53.cls ≠ "java/lang/invoke/MethodHandle" ∧ yJ15_checkIndex_7cf53.cls ≠ "java/lang/invoke/VarHandle" ∧ (parseMethodDescriptor yJ15_checkIndex_7cf53.desc).map (fun d => d.parameters.length) = some 2 := by decide +kernel
theorem hdV_Jx4a65c_elementData_915e3 : yJx4a65c_elementData_915e3.cls = RJx4a65c ∧ yJx4a65c_elementData_915e3.cls ≠ "java/lang/invoke/MethodHandle" ∧ yJx4a65c_elementData_915e3.cls ≠ "java/lang/invoke/VarHandle" ∧ (parseMethodDescriptor yJx4a65c_elementData_915e3.desc).map (fun d => d.parameters.length) = some 1 := by decide +kernel
theorem lf_X0_grossIn_11 : Cond.fieldLink RX0 11 "NetPoints$Picture" "receipts" "[[I" ∈ wsX0_grossIn := by decide +kernel
theorem in_X0_grossIn_1 : ∀ w ∈ u_ws RX0 TX0 15, w ∈ wsX0_grossIn := by decide +kernel
theorem lf_X0_feesIn_11 : Cond.fieldLink RX0 11 "NetPoints$Picture" "receipts" "[[I" ∈ wsX0_feesIn := by decide +kernel
theorem in_X0_feesIn_1 : ∀ w ∈ u_ws RX0 TX0 15, w ∈ wsX0_feesIn := by decide +kernel
theorem lf_X0_feesIn_20 : Cond.fieldLink RX0 20 "NetPoints$Picture" "feeRates" "[I" ∈ wsX0_feesIn := by decide +kernel
theorem hdS_X2_part : yX2_part.cls ≠ "java/lang/invoke/MethodHandle" ∧ yX2_part.cls ≠ "java/lang/invoke/VarHandle" ∧ (parseMethodDescriptor yX2_part.desc).map (fun d => d.parameters.length) = some 2 := by decide +kernel
theorem lini_X0_feesIn_X2_part : Cond.initialized yX2_part.cls ∈ wsX0_feesIn := by decide +kernel
theorem lst_X0_feesIn_X2_part : Cond.static yX2_part ∈ wsX0_feesIn := by decide +kernel
theorem lf_X0_netRatesGiven_26 : Cond.fieldLink RX0 26 "NetPoints$Picture" "sharers" "Ljava/util/ArrayList;" ∈ wsX0_netRatesGiven := by decide +kernel
theorem in_X0_netRatesGiven_1 : ∀ w ∈ u_ws RX0 TX0 15, w ∈ wsX0_netRatesGiven := by decide +kernel
theorem hdV_Jx4a65c_size_8abf5 : yJx4a65c_size_8abf5.cls = RJx4a65c ∧ yJx4a65c_size_8abf5.cls ≠ "java/lang/invoke/MethodHandle" ∧ yJx4a65c_size_8abf5.cls ≠ "java/lang/invoke/VarHandle" ∧ (parseMethodDescriptor yJx4a65c_size_8abf5.desc).map (fun d => d.parameters.length) = some 0 := by decide +kernel
theorem hdV_Jx4a65c_get_915e3 : yJx4a65c_get_915e3.cls = RJx4a65c ∧ yJx4a65c_get_915e3.cls ≠ "java/lang/invoke/MethodHandle" ∧ yJx4a65c_get_915e3.cls ≠ "java/lang/invoke/VarHandle" ∧ (parseMethodDescriptor yJx4a65c_get_915e3.desc).map (fun d => d.parameters.length) = some 1 := by decide +kernel
theorem lcl_X0_netRatesGiven_45 : Cond.classLink RX0 45 "NetPoints$Sharer" ∈ wsX0_netRatesGiven := by decide +kernel
theorem lf_X0_netRatesGiven_47 : Cond.fieldLink RX0 47 "NetPoints$Sharer" "kind" "I" ∈ wsX0_netRatesGiven := by decide +kernel
theorem in_X0_netRatesGiven_2 : ∀ w ∈ u_ws RX1 TX1 7, w ∈ wsX0_netRatesGiven := by decide +kernel
theorem lf_X0_netRatesGiven_51 : Cond.fieldLink RX0 51 "NetPoints$Sharer" "first" "I" ∈ wsX0_netRatesGiven := by decide +kernel
theorem lf_X0_netRatesGiven_54 : Cond.fieldLink RX0 54 "NetPoints$Sharer" "second" "I" ∈ wsX0_netRatesGiven := by decide +kernel
theorem lml_X0_netRatesGiven_57 : Cond.methodLink RX0 57 Lib.Math.max.name ∈ wsX0_netRatesGiven := by decide +kernel
theorem lst_X0_netRatesGiven_57 : Cond.static Lib.Math.max.name ∈ wsX0_netRatesGiven := by decide +kernel
theorem lini_X0_netRatesGiven_Math : Cond.initialized "java/lang/Math" ∈ wsX0_netRatesGiven := by decide +kernel
theorem lcd_X0_netRatesGiven_57 : Cond.code Lib.Math.max.name Lib.Math.max.code 2 (some .int) ∈ wsX0_netRatesGiven := by decide +kernel
theorem lf_X0_sharesThatAreCosts_26 : Cond.fieldLink RX0 26 "NetPoints$Picture" "sharers" "Ljava/util/ArrayList;" ∈ wsX0_sharesThatAreCosts := by decide +kernel
theorem in_X0_sharesThatAreCosts_1 : ∀ w ∈ u_ws RX0 TX0 15, w ∈ wsX0_sharesThatAreCosts := by decide +kernel
theorem lcl_X0_sharesThatAreCosts_45 : Cond.classLink RX0 45 "NetPoints$Sharer" ∈ wsX0_sharesThatAreCosts := by decide +kernel
theorem lf_X0_sharesThatAreCosts_47 : Cond.fieldLink RX0 47 "NetPoints$Sharer" "kind" "I" ∈ wsX0_sharesThatAreCosts := by decide +kernel
theorem in_X0_sharesThatAreCosts_2 : ∀ w ∈ u_ws RX1 TX1 7, w ∈ wsX0_sharesThatAreCosts := by decide +kernel
theorem lf_X0_sharesThatAreCosts_63 : Cond.fieldLink RX0 63 "NetPoints$Picture" "grossSoFar" "J" ∈ wsX0_sharesThatAreCosts := by decide +kernel
theorem hdV_X1_bonusAt : yX1_bonusAt.cls = RX1 ∧ yX1_bonusAt.cls ≠ "java/lang/invoke/MethodHandle" ∧ yX1_bonusAt.cls ≠ "java/lang/invoke/VarHandle" ∧ (parseMethodDescriptor yX1_bonusAt.desc).map (fun d => d.parameters.length) = some 1 := by decide +kernel
theorem lf_X0_sharesThatAreCosts_67 : Cond.fieldLink RX0 67 "NetPoints$Picture" "adjustedSoFar" "J" ∈ wsX0_sharesThatAreCosts := by decide +kernel
theorem hdV_X1_shareOf : yX1_shareOf.cls = RX1 ∧ yX1_shareOf.cls ≠ "java/lang/invoke/MethodHandle" ∧ yX1_shareOf.cls ≠ "java/lang/invoke/VarHandle" ∧ (parseMethodDescriptor yX1_shareOf.desc).map (fun d => d.parameters.length) = some 1 := by decide +kernel
theorem lf_X0_profitLeftAt_79 : Cond.fieldLink RX0 79 "NetPoints$Picture" "profitSoFar" "J" ∈ wsX0_profitLeftAt := by decide +kernel
theorem in_X0_profitLeftAt_1 : ∀ w ∈ u_ws RX0 TX0 15, w ∈ wsX0_profitLeftAt := by decide +kernel
theorem lf_X0_profitLeftAt_26 : Cond.fieldLink RX0 26 "NetPoints$Picture" "sharers" "Ljava/util/ArrayList;" ∈ wsX0_profitLeftAt := by decide +kernel
theorem lcl_X0_profitLeftAt_45 : Cond.classLink RX0 45 "NetPoints$Sharer" ∈ wsX0_profitLeftAt := by decide +kernel
theorem lf_X0_profitLeftAt_47 : Cond.fieldLink RX0 47 "NetPoints$Sharer" "kind" "I" ∈ wsX0_profitLeftAt := by decide +kernel
theorem in_X0_profitLeftAt_2 : ∀ w ∈ u_ws RX1 TX1 7, w ∈ wsX0_profitLeftAt := by decide +kernel
theorem lf_X0_profitLeftAt_117 : Cond.fieldLink RX0 117 "NetPoints$Sharer" "limit" "I" ∈ wsX0_profitLeftAt := by decide +kernel
theorem lml_X0_profitLeftAt_103 : Cond.methodLink RX0 103 Lib.MathLoose.min_long.x ∈ wsX0_profitLeftAt := by decide +kernel
theorem lst_X0_profitLeftAt_103 : Cond.static Lib.MathLoose.min_long.x ∈ wsX0_profitLeftAt := by decide +kernel
theorem lini_X0_profitLeftAt_Math : Cond.initialized "java/lang/Math" ∈ wsX0_profitLeftAt := by decide +kernel
theorem lcd_X0_profitLeftAt_103 : Cond.code Lib.MathLoose.min_long.x Lib.MathLoose.min_long.code 4 (some .long) ∈ wsX0_profitLeftAt := by decide +kernel
theorem lf_X0_poolDrawn_26 : Cond.fieldLink RX0 26 "NetPoints$Picture" "sharers" "Ljava/util/ArrayList;" ∈ wsX0_poolDrawn := by decide +kernel
theorem in_X0_poolDrawn_1 : ∀ w ∈ u_ws RX0 TX0 15, w ∈ wsX0_poolDrawn := by decide +kernel
theorem hdV_X0_profitLeftAt : yX0_profitLeftAt.cls = RX0 ∧ yX0_profitLeftAt.cls ≠ "java/lang/invoke/MethodHandle" ∧ yX0_profitLeftAt.cls ≠ "java/lang/invoke/VarHandle" ∧ (parseMethodDescriptor yX0_profitLeftAt.desc).map (fun d => d.parameters.length) = some 1 := by decide +kernel
theorem lf_X0_startBooks_63 : Cond.fieldLink RX0 63 "NetPoints$Picture" "grossSoFar" "J" ∈ wsX0_startBooks := by decide +kernel
theorem in_X0_startBooks_1 : ∀ w ∈ u_ws RX0 TX0 15, w ∈ wsX0_startBooks := by decide +kernel
theorem pd_X0_9 : parseFieldDescriptor (TX0 9).2.2.1 = some (tyX0 9) := by decide +kernel
theorem lf_X0_startBooks_67 : Cond.fieldLink RX0 67 "NetPoints$Picture" "adjustedSoFar" "J" ∈ wsX0_startBooks := by decide +kernel
theorem pd_X0_10 : parseFieldDescriptor (TX0 10).2.2.1 = some (tyX0 10) := by decide +kernel
theorem lf_X0_startBooks_70 : Cond.fieldLink RX0 70 "NetPoints$Picture" "feesSoFar" "J" ∈ wsX0_startBooks := by decide +kernel
theorem pd_X0_11 : parseFieldDescriptor (TX0 11).2.2.1 = some (tyX0 11) := by decide +kernel
theorem lf_X0_startBooks_73 : Cond.fieldLink RX0 73 "NetPoints$Picture" "sharesSoFar" "J" ∈ wsX0_startBooks := by decide +kernel
theorem pd_X0_12 : parseFieldDescriptor (TX0 12).2.2.1 = some (tyX0 12) := by decide +kernel
theorem lf_X0_startBooks_76 : Cond.fieldLink RX0 76 "NetPoints$Picture" "balanceSoFar" "J" ∈ wsX0_startBooks := by decide +kernel
theorem pd_X0_13 : parseFieldDescriptor (TX0 13).2.2.1 = some (tyX0 13) := by decide +kernel
theorem lf_X0_startBooks_79 : Cond.fieldLink RX0 79 "NetPoints$Picture" "profitSoFar" "J" ∈ wsX0_startBooks := by decide +kernel
theorem pd_X0_14 : parseFieldDescriptor (TX0 14).2.2.1 = some (tyX0 14) := by decide +kernel
theorem hdV_X0_grossIn : yX0_grossIn.cls = RX0 ∧ yX0_grossIn.cls ≠ "java/lang/invoke/MethodHandle" ∧ yX0_grossIn.cls ≠ "java/lang/invoke/VarHandle" ∧ (parseMethodDescriptor yX0_grossIn.desc).map (fun d => d.parameters.length) = some 1 := by decide +kernel
theorem lf_X0_recoup_86 : Cond.fieldLink RX0 86 "NetPoints$Picture" "topRate" "I" ∈ wsX0_recoup := by decide +kernel
theorem in_X0_recoup_1 : ∀ w ∈ u_ws RX0 TX0 15, w ∈ wsX0_recoup := by decide +kernel
theorem lini_X0_recoup_X2_part : Cond.initialized yX2_part.cls ∈ wsX0_recoup := by decide +kernel
theorem lst_X0_recoup_X2_part : Cond.static yX2_part ∈ wsX0_recoup := by decide +kernel
theorem hdV_X0_feesIn : yX0_feesIn.cls = RX0 ∧ yX0_feesIn.cls ≠ "java/lang/invoke/MethodHandle" ∧ yX0_feesIn.cls ≠ "java/lang/invoke/VarHandle" ∧ (parseMethodDescriptor yX0_feesIn.desc).map (fun d => d.parameters.length) = some 1 := by decide +kernel
theorem lf_X0_recoup_63 : Cond.fieldLink RX0 63 "NetPoints$Picture" "grossSoFar" "J" ∈ wsX0_recoup := by decide +kernel
theorem lf_X0_recoup_67 : Cond.fieldLink RX0 67 "NetPoints$Picture" "adjustedSoFar" "J" ∈ wsX0_recoup := by decide +kernel
theorem lf_X0_recoup_70 : Cond.fieldLink RX0 70 "NetPoints$Picture" "feesSoFar" "J" ∈ wsX0_recoup := by decide +kernel
theorem hdV_X0_sharesThatAreCosts : yX0_sharesThatAreCosts.cls = RX0 ∧ yX0_sharesThatAreCosts.cls ≠ "java/lang/invoke/MethodHandle" ∧ yX0_sharesThatAreCosts.cls ≠ "java/lang/invoke/VarHandle" ∧ (parseMethodDescriptor yX0_sharesThatAreCosts.desc).map (fun d => d.parameters.length) = some 0 := by decide +kernel
theorem lf_X0_recoup_76 : Cond.fieldLink RX0 76 "NetPoints$Picture" "balanceSoFar" "J" ∈ wsX0_recoup := by decide +kernel
theorem lf_X0_recoup_16 : Cond.fieldLink RX0 16 "NetPoints$Picture" "costs" "[I" ∈ wsX0_recoup := by decide +kernel
theorem lf_X0_recoup_100 : Cond.fieldLink RX0 100 "NetPoints$Picture" "overheadRate" "I" ∈ wsX0_recoup := by decide +kernel
theorem lf_X0_recoup_73 : Cond.fieldLink RX0 73 "NetPoints$Picture" "sharesSoFar" "J" ∈ wsX0_recoup := by decide +kernel
theorem lf_X0_recoup_79 : Cond.fieldLink RX0 79 "NetPoints$Picture" "profitSoFar" "J" ∈ wsX0_recoup := by decide +kernel
theorem lf_X0_moveGain_76 : Cond.fieldLink RX0 76 "NetPoints$Picture" "balanceSoFar" "J" ∈ wsX0_moveGain := by decide +kernel
theorem in_X0_moveGain_1 : ∀ w ∈ u_ws RX0 TX0 15, w ∈ wsX0_moveGain := by decide +kernel
theorem lml_X0_moveGain_103 : Cond.methodLink RX0 103 Lib.MathLoose.min_long.x ∈ wsX0_moveGain := by decide +kernel
theorem lst_X0_moveGain_103 : Cond.static Lib.MathLoose.min_long.x ∈ wsX0_moveGain := by decide +kernel
theorem lini_X0_moveGain_Math : Cond.initialized "java/lang/Math" ∈ wsX0_moveGain := by decide +kernel
theorem lcd_X0_moveGain_103 : Cond.code Lib.MathLoose.min_long.x Lib.MathLoose.min_long.code 4 (some .long) ∈ wsX0_moveGain := by decide +kernel
theorem lf_X0_moveGain_79 : Cond.fieldLink RX0 79 "NetPoints$Picture" "profitSoFar" "J" ∈ wsX0_moveGain := by decide +kernel
theorem lf_X0_finishYear_76 : Cond.fieldLink RX0 76 "NetPoints$Picture" "balanceSoFar" "J" ∈ wsX0_finishYear := by decide +kernel
theorem in_X0_finishYear_1 : ∀ w ∈ u_ws RX0 TX0 15, w ∈ wsX0_finishYear := by decide +kernel
theorem lf_X0_finishYear_107 : Cond.fieldLink RX0 107 "NetPoints$Picture" "interestRate" "I" ∈ wsX0_finishYear := by decide +kernel
theorem lini_X0_finishYear_X2_part : Cond.initialized yX2_part.cls ∈ wsX0_finishYear := by decide +kernel
theorem lst_X0_finishYear_X2_part : Cond.static yX2_part ∈ wsX0_finishYear := by decide +kernel
theorem lf_X0_finishYear_30 : Cond.fieldLink RX0 30 "NetPoints$Picture" "balances" "[J" ∈ wsX0_finishYear := by decide +kernel
theorem lf_X0_finishYear_34 : Cond.fieldLink RX0 34 "NetPoints$Picture" "profits" "[J" ∈ wsX0_finishYear := by decide +kernel
theorem lf_X0_finishYear_79 : Cond.fieldLink RX0 79 "NetPoints$Picture" "profitSoFar" "J" ∈ wsX0_finishYear := by decide +kernel
theorem lf_X0_sumDrawn_47 : Cond.fieldLink RX0 47 "NetPoints$Sharer" "kind" "I" ∈ wsX0_sumDrawn := by decide +kernel
theorem in_X0_sumDrawn_2 : ∀ w ∈ u_ws RX1 TX1 7, w ∈ wsX0_sumDrawn := by decide +kernel
theorem lf_X0_sumDrawn_67 : Cond.fieldLink RX0 67 "NetPoints$Picture" "adjustedSoFar" "J" ∈ wsX0_sumDrawn := by decide +kernel
theorem in_X0_sumDrawn_1 : ∀ w ∈ u_ws RX0 TX0 15, w ∈ wsX0_sumDrawn := by decide +kernel
theorem hdV_X0_poolDrawn : yX0_poolDrawn.cls = RX0 ∧ yX0_poolDrawn.cls ≠ "java/lang/invoke/MethodHandle" ∧ yX0_poolDrawn.cls ≠ "java/lang/invoke/VarHandle" ∧ (parseMethodDescriptor yX0_poolDrawn.desc).map (fun d => d.parameters.length) = some 0 := by decide +kernel
theorem lf_X0_sumDrawn_117 : Cond.fieldLink RX0 117 "NetPoints$Sharer" "limit" "I" ∈ wsX0_sumDrawn := by decide +kernel
theorem lf_X0_sumDrawn_120 : Cond.fieldLink RX0 120 "NetPoints$Sharer" "turn" "I" ∈ wsX0_sumDrawn := by decide +kernel
theorem lml_X0_sumDrawn_103 : Cond.methodLink RX0 103 Lib.MathLoose.min_long.x ∈ wsX0_sumDrawn := by decide +kernel
theorem lst_X0_sumDrawn_103 : Cond.static Lib.MathLoose.min_long.x ∈ wsX0_sumDrawn := by decide +kernel
theorem lini_X0_sumDrawn_Math : Cond.initialized "java/lang/Math" ∈ wsX0_sumDrawn := by decide +kernel
theorem lcd_X0_sumDrawn_103 : Cond.code Lib.MathLoose.min_long.x Lib.MathLoose.min_long.code 4 (some .long) ∈ wsX0_sumDrawn := by decide +kernel
theorem lf_X0_sumDrawn_63 : Cond.fieldLink RX0 63 "NetPoints$Picture" "grossSoFar" "J" ∈ wsX0_sumDrawn := by decide +kernel
