theorem lf_X3_sumOf_28 : Cond.fieldLink RX3 28 "NetPointsModel" "pictures" "[I" ∈ wsX3_sumOf := by decide +kernel
theorem in_X3_sumOf_4 : ∀ w ∈ u_ws RX3 TX3 19, w ∈ wsX3_sumOf := by decide +kernel
theorem lf_X3_sumOf_31 : Cond.fieldLink RX3 31 "NetPointsModel" "kinds" "[I" ∈ wsX3_sumOf := by decide +kernel
theorem lf_X3_sumOf_85 : Cond.fieldLink RX3 85 "NetPointsModel" "now" "I" ∈ wsX3_sumOf := by decide +kernel
theorem hdV_X3_lay : yX3_lay.cls = RX3 ∧ yX3_lay.cls ≠ "java/lang/invoke/MethodHandle" ∧ yX3_lay.cls ≠ "java/lang/invoke/VarHandle" ∧ (parseMethodDescriptor yX3_lay.desc).map (fun d => d.parameters.length) = some 0 := by decide +kernel
theorem hdV_X3_deferred : yX3_deferred.cls = RX3 ∧ yX3_deferred.cls ≠ "java/lang/invoke/MethodHandle" ∧ yX3_deferred.cls ≠ "java/lang/invoke/VarHandle" ∧ (parseMethodDescriptor yX3_deferred.desc).map (fun d => d.parameters.length) = some 2 := by decide +kernel
theorem lf_X3_sumOf_34 : Cond.fieldLink RX3 34 "NetPointsModel" "limits" "[I" ∈ wsX3_sumOf := by decide +kernel
theorem lf_X3_sumOf_81 : Cond.fieldLink RX3 81 "NetPointsModel" "many" "I" ∈ wsX3_sumOf := by decide +kernel
theorem hdV_X3_isSharer : yX3_isSharer.cls = RX3 ∧ yX3_isSharer.cls ≠ "java/lang/invoke/MethodHandle" ∧ yX3_isSharer.cls ≠ "java/lang/invoke/VarHandle" ∧ (parseMethodDescriptor yX3_isSharer.desc).map (fun d => d.parameters.length) = some 1 := by decide +kernel
theorem hdV_X3_sumOf : yX3_sumOf.cls = RX3 ∧ yX3_sumOf.cls ≠ "java/lang/invoke/MethodHandle" ∧ yX3_sumOf.cls ≠ "java/lang/invoke/VarHandle" ∧ (parseMethodDescriptor yX3_sumOf.desc).map (fun d => d.parameters.length) = some 1 := by decide +kernel
theorem lf_X3_paid_43 : Cond.fieldLink RX3 43 "NetPointsModel" "paidTo" "[I" ∈ wsX3_paid := by decide +kernel
theorem in_X3_paid_4 : ∀ w ∈ u_ws RX3 TX3 19, w ∈ wsX3_paid := by decide +kernel
theorem lf_X3_owed_43 : Cond.fieldLink RX3 43 "NetPointsModel" "paidTo" "[I" ∈ wsX3_owed := by decide +kernel
theorem in_X3_owed_4 : ∀ w ∈ u_ws RX3 TX3 19, w ∈ wsX3_owed := by decide +kernel
theorem lf_X3_pay_43 : Cond.fieldLink RX3 43 "NetPointsModel" "paidTo" "[I" ∈ wsX3_pay := by decide +kernel
theorem in_X3_pay_4 : ∀ w ∈ u_ws RX3 TX3 19, w ∈ wsX3_pay := by decide +kernel
theorem lf_X3_gross_56 : Cond.fieldLink RX3 56 "NetPointsModel" "thrown" "I" ∈ wsX3_gross := by decide +kernel
theorem in_X3_gross_4 : ∀ w ∈ u_ws RX3 TX3 19, w ∈ wsX3_gross := by decide +kernel
theorem lf_X3_gross_85 : Cond.fieldLink RX3 85 "NetPointsModel" "now" "I" ∈ wsX3_gross := by decide +kernel
theorem lf_X3_adjusted_56 : Cond.fieldLink RX3 56 "NetPointsModel" "thrown" "I" ∈ wsX3_adjusted := by decide +kernel
theorem in_X3_adjusted_4 : ∀ w ∈ u_ws RX3 TX3 19, w ∈ wsX3_adjusted := by decide +kernel
theorem lf_X3_adjusted_85 : Cond.fieldLink RX3 85 "NetPointsModel" "now" "I" ∈ wsX3_adjusted := by decide +kernel
theorem lf_X3_fees_56 : Cond.fieldLink RX3 56 "NetPointsModel" "thrown" "I" ∈ wsX3_fees := by decide +kernel
theorem in_X3_fees_4 : ∀ w ∈ u_ws RX3 TX3 19, w ∈ wsX3_fees := by decide +kernel
theorem lf_X3_fees_85 : Cond.fieldLink RX3 85 "NetPointsModel" "now" "I" ∈ wsX3_fees := by decide +kernel
theorem hdV_X3_isYear : yX3_isYear.cls = RX3 ∧ yX3_isYear.cls ≠ "java/lang/invoke/MethodHandle" ∧ yX3_isYear.cls ≠ "java/lang/invoke/VarHandle" ∧ (parseMethodDescriptor yX3_isYear.desc).map (fun d => d.parameters.length) = some 2 := by decide +kernel
theorem lf_X3_balance_46 : Cond.fieldLink RX3 46 "NetPointsModel" "balances" "[J" ∈ wsX3_balance := by decide +kernel
theorem in_X3_balance_4 : ∀ w ∈ u_ws RX3 TX3 19, w ∈ wsX3_balance := by decide +kernel
theorem lf_X3_profit_50 : Cond.fieldLink RX3 50 "NetPointsModel" "profits" "[J" ∈ wsX3_profit := by decide +kernel
theorem in_X3_profit_4 : ∀ w ∈ u_ws RX3 TX3 19, w ∈ wsX3_profit := by decide +kernel
theorem lf_X3_pool_56 : Cond.fieldLink RX3 56 "NetPointsModel" "thrown" "I" ∈ wsX3_pool := by decide +kernel
theorem in_X3_pool_4 : ∀ w ∈ u_ws RX3 TX3 19, w ∈ wsX3_pool := by decide +kernel
theorem lf_X3_pool_81 : Cond.fieldLink RX3 81 "NetPointsModel" "many" "I" ∈ wsX3_pool := by decide +kernel
