theorem lf_X2_drawBooks_10 : Cond.fieldLink RX2 10 "NetPoints" "picture0" "LNetPoints$Picture;" ∈ wsX2_drawBooks := by decide +kernel
theorem in_X2_drawBooks_3 : ∀ w ∈ u_ws RX2 TX2 5, w ∈ wsX2_drawBooks := by decide +kernel
theorem hdV_X0_startBooks : yX0_startBooks.cls = RX0 ∧ yX0_startBooks.cls ≠ "java/lang/invoke/MethodHandle" ∧ yX0_startBooks.cls ≠ "java/lang/invoke/VarHandle" ∧ (parseMethodDescriptor yX0_startBooks.desc).map (fun d => d.parameters.length) = some 0 := by decide +kernel
theorem lf_X2_drawBooks_16 : Cond.fieldLink RX2 16 "NetPoints" "picture1" "LNetPoints$Picture;" ∈ wsX2_drawBooks := by decide +kernel
theorem lf_X2_drawBooks_30 : Cond.fieldLink RX2 30 "NetPoints" "yearOfNow" "I" ∈ wsX2_drawBooks := by decide +kernel
theorem hdV_X0_finishYear : yX0_finishYear.cls = RX0 ∧ yX0_finishYear.cls ≠ "java/lang/invoke/MethodHandle" ∧ yX0_finishYear.cls ≠ "java/lang/invoke/VarHandle" ∧ (parseMethodDescriptor yX0_finishYear.desc).map (fun d => d.parameters.length) = some 1 := by decide +kernel
theorem hdV_X0_recoup : yX0_recoup.cls = RX0 ∧ yX0_recoup.cls ≠ "java/lang/invoke/MethodHandle" ∧ yX0_recoup.cls ≠ "java/lang/invoke/VarHandle" ∧ (parseMethodDescriptor yX0_recoup.desc).map (fun d => d.parameters.length) = some 1 := by decide +kernel
theorem lf_X2_drawBooks_26 : Cond.fieldLink RX2 26 "NetPoints" "crossed" "Z" ∈ wsX2_drawBooks := by decide +kernel
theorem hdV_X0_moveGain : yX0_moveGain.cls = RX0 ∧ yX0_moveGain.cls ≠ "java/lang/invoke/MethodHandle" ∧ yX0_moveGain.cls ≠ "java/lang/invoke/VarHandle" ∧ (parseMethodDescriptor yX0_moveGain.desc).map (fun d => d.parameters.length) = some 2 := by decide +kernel
theorem hdV_X2_drawBooks : yX2_drawBooks.cls = RX2 ∧ yX2_drawBooks.cls ≠ "java/lang/invoke/MethodHandle" ∧ yX2_drawBooks.cls ≠ "java/lang/invoke/VarHandle" ∧ (parseMethodDescriptor yX2_drawBooks.desc).map (fun d => d.parameters.length) = some 0 := by decide +kernel
theorem lf_X2_gross_128 : Cond.fieldLink RX2 128 "NetPoints$Picture" "grossSoFar" "J" ∈ wsX2_gross := by decide +kernel
theorem in_X2_gross_1 : ∀ w ∈ u_ws RX0 TX0 15, w ∈ wsX2_gross := by decide +kernel
theorem lf_X2_adjusted_131 : Cond.fieldLink RX2 131 "NetPoints$Picture" "adjustedSoFar" "J" ∈ wsX2_adjusted := by decide +kernel
theorem in_X2_adjusted_1 : ∀ w ∈ u_ws RX0 TX0 15, w ∈ wsX2_adjusted := by decide +kernel
theorem lf_X2_fees_134 : Cond.fieldLink RX2 134 "NetPoints$Picture" "feesSoFar" "J" ∈ wsX2_fees := by decide +kernel
theorem in_X2_fees_1 : ∀ w ∈ u_ws RX0 TX0 15, w ∈ wsX2_fees := by decide +kernel
theorem lf_X2_balance_30 : Cond.fieldLink RX2 30 "NetPoints" "yearOfNow" "I" ∈ wsX2_balance := by decide +kernel
theorem in_X2_balance_3 : ∀ w ∈ u_ws RX2 TX2 5, w ∈ wsX2_balance := by decide +kernel
theorem lf_X2_balance_137 : Cond.fieldLink RX2 137 "NetPoints$Picture" "balances" "[J" ∈ wsX2_balance := by decide +kernel
theorem in_X2_balance_1 : ∀ w ∈ u_ws RX0 TX0 15, w ∈ wsX2_balance := by decide +kernel
theorem lf_X2_profit_30 : Cond.fieldLink RX2 30 "NetPoints" "yearOfNow" "I" ∈ wsX2_profit := by decide +kernel
theorem in_X2_profit_3 : ∀ w ∈ u_ws RX2 TX2 5, w ∈ wsX2_profit := by decide +kernel
theorem lf_X2_profit_141 : Cond.fieldLink RX2 141 "NetPoints$Picture" "profits" "[J" ∈ wsX2_profit := by decide +kernel
theorem in_X2_profit_1 : ∀ w ∈ u_ws RX0 TX0 15, w ∈ wsX2_profit := by decide +kernel
theorem lf_X2_drawnSum_171 : Cond.fieldLink RX2 171 "NetPoints$Sharer" "picture" "LNetPoints$Picture;" ∈ wsX2_drawnSum := by decide +kernel
theorem in_X2_drawnSum_2 : ∀ w ∈ u_ws RX1 TX1 7, w ∈ wsX2_drawnSum := by decide +kernel
theorem hdV_X0_sumDrawn : yX0_sumDrawn.cls = RX0 ∧ yX0_sumDrawn.cls ≠ "java/lang/invoke/MethodHandle" ∧ yX0_sumDrawn.cls ≠ "java/lang/invoke/VarHandle" ∧ (parseMethodDescriptor yX0_sumDrawn.desc).map (fun d => d.parameters.length) = some 1 := by decide +kernel
theorem hdV_X2_requireSharer : yX2_requireSharer.cls = RX2 ∧ yX2_requireSharer.cls ≠ "java/lang/invoke/MethodHandle" ∧ yX2_requireSharer.cls ≠ "java/lang/invoke/VarHandle" ∧ (parseMethodDescriptor yX2_requireSharer.desc).map (fun d => d.parameters.length) = some 1 := by decide +kernel
theorem lf_X2_sum_22 : Cond.fieldLink RX2 22 "NetPoints" "allSharers" "Ljava/util/ArrayList;" ∈ wsX2_sum := by decide +kernel
theorem in_X2_sum_3 : ∀ w ∈ u_ws RX2 TX2 5, w ∈ wsX2_sum := by decide +kernel
theorem lcl_X2_sum_73 : Cond.classLink RX2 73 "NetPoints$Sharer" ∈ wsX2_sum := by decide +kernel
theorem hdV_X2_drawnSum : yX2_drawnSum.cls = RX2 ∧ yX2_drawnSum.cls ≠ "java/lang/invoke/MethodHandle" ∧ yX2_drawnSum.cls ≠ "java/lang/invoke/VarHandle" ∧ (parseMethodDescriptor yX2_drawnSum.desc).map (fun d => d.parameters.length) = some 1 := by decide +kernel
theorem lf_X2_paid_22 : Cond.fieldLink RX2 22 "NetPoints" "allSharers" "Ljava/util/ArrayList;" ∈ wsX2_paid := by decide +kernel
theorem in_X2_paid_3 : ∀ w ∈ u_ws RX2 TX2 5, w ∈ wsX2_paid := by decide +kernel
theorem lcl_X2_paid_73 : Cond.classLink RX2 73 "NetPoints$Sharer" ∈ wsX2_paid := by decide +kernel
theorem lf_X2_paid_119 : Cond.fieldLink RX2 119 "NetPoints$Sharer" "paidSoFar" "J" ∈ wsX2_paid := by decide +kernel
theorem in_X2_paid_2 : ∀ w ∈ u_ws RX1 TX1 7, w ∈ wsX2_paid := by decide +kernel
theorem lf_X2_owed_22 : Cond.fieldLink RX2 22 "NetPoints" "allSharers" "Ljava/util/ArrayList;" ∈ wsX2_owed := by decide +kernel
theorem in_X2_owed_3 : ∀ w ∈ u_ws RX2 TX2 5, w ∈ wsX2_owed := by decide +kernel
theorem lcl_X2_owed_73 : Cond.classLink RX2 73 "NetPoints$Sharer" ∈ wsX2_owed := by decide +kernel
theorem lf_X2_owed_119 : Cond.fieldLink RX2 119 "NetPoints$Sharer" "paidSoFar" "J" ∈ wsX2_owed := by decide +kernel
theorem in_X2_owed_2 : ∀ w ∈ u_ws RX1 TX1 7, w ∈ wsX2_owed := by decide +kernel
theorem lf_X2_pay_22 : Cond.fieldLink RX2 22 "NetPoints" "allSharers" "Ljava/util/ArrayList;" ∈ wsX2_pay := by decide +kernel
theorem in_X2_pay_3 : ∀ w ∈ u_ws RX2 TX2 5, w ∈ wsX2_pay := by decide +kernel
theorem lcl_X2_pay_73 : Cond.classLink RX2 73 "NetPoints$Sharer" ∈ wsX2_pay := by decide +kernel
theorem lf_X2_pay_119 : Cond.fieldLink RX2 119 "NetPoints$Sharer" "paidSoFar" "J" ∈ wsX2_pay := by decide +kernel
theorem in_X2_pay_2 : ∀ w ∈ u_ws RX1 TX1 7, w ∈ wsX2_pay := by decide +kernel
theorem pd_X1_6 : parseFieldDescriptor (TX1 6).2.2.1 = some (tyX1 6) := by decide +kernel
