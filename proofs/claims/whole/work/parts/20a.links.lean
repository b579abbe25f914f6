theorem hdV_X2_setRates : yX2_setRates.cls = RX2 ∧ yX2_setRates.cls ≠ "java/lang/invoke/MethodHandle" ∧ yX2_setRates.cls ≠ "java/lang/invoke/VarHandle" ∧ (parseMethodDescriptor yX2_setRates.desc).map (fun d => d.parameters.length) = some 4 := by decide +kernel
theorem lcl_L_setRates_13 : Cond.classLink RL 13 "java/lang/IndexOutOfBoundsException" ∈ wsL_setRates := by decide +kernel
theorem lcl_L_setRates_15 : Cond.classLink RL 15 "java/lang/IllegalArgumentException" ∈ wsL_setRates := by decide +kernel
theorem hdV_X2_setFee : yX2_setFee.cls = RX2 ∧ yX2_setFee.cls ≠ "java/lang/invoke/MethodHandle" ∧ yX2_setFee.cls ≠ "java/lang/invoke/VarHandle" ∧ (parseMethodDescriptor yX2_setFee.desc).map (fun d => d.parameters.length) = some 3 := by decide +kernel
theorem lcl_L_setFee_13 : Cond.classLink RL 13 "java/lang/IndexOutOfBoundsException" ∈ wsL_setFee := by decide +kernel
theorem lcl_L_setFee_15 : Cond.classLink RL 15 "java/lang/IllegalArgumentException" ∈ wsL_setFee := by decide +kernel
theorem hdV_X2_add : yX2_add.cls = RX2 ∧ yX2_add.cls ≠ "java/lang/invoke/MethodHandle" ∧ yX2_add.cls ≠ "java/lang/invoke/VarHandle" ∧ (parseMethodDescriptor yX2_add.desc).map (fun d => d.parameters.length) = some 5 := by decide +kernel
theorem lcl_L_add_13 : Cond.classLink RL 13 "java/lang/IndexOutOfBoundsException" ∈ wsL_add := by decide +kernel
theorem lcl_L_add_15 : Cond.classLink RL 15 "java/lang/IllegalArgumentException" ∈ wsL_add := by decide +kernel
theorem lcl_L_add_25 : Cond.classLink RL 25 "java/lang/IllegalStateException" ∈ wsL_add := by decide +kernel
theorem hdV_X2_receive : yX2_receive.cls = RX2 ∧ yX2_receive.cls ≠ "java/lang/invoke/MethodHandle" ∧ yX2_receive.cls ≠ "java/lang/invoke/VarHandle" ∧ (parseMethodDescriptor yX2_receive.desc).map (fun d => d.parameters.length) = some 3 := by decide +kernel
theorem lcl_L_receive_13 : Cond.classLink RL 13 "java/lang/IndexOutOfBoundsException" ∈ wsL_receive := by decide +kernel
theorem lcl_L_receive_15 : Cond.classLink RL 15 "java/lang/IllegalArgumentException" ∈ wsL_receive := by decide +kernel
theorem hdV_X2_spend : yX2_spend.cls = RX2 ∧ yX2_spend.cls ≠ "java/lang/invoke/MethodHandle" ∧ yX2_spend.cls ≠ "java/lang/invoke/VarHandle" ∧ (parseMethodDescriptor yX2_spend.desc).map (fun d => d.parameters.length) = some 2 := by decide +kernel
theorem lcl_L_spend_13 : Cond.classLink RL 13 "java/lang/IndexOutOfBoundsException" ∈ wsL_spend := by decide +kernel
theorem lcl_L_spend_15 : Cond.classLink RL 15 "java/lang/IllegalArgumentException" ∈ wsL_spend := by decide +kernel
theorem hdV_X2_audit : yX2_audit.cls = RX2 ∧ yX2_audit.cls ≠ "java/lang/invoke/MethodHandle" ∧ yX2_audit.cls ≠ "java/lang/invoke/VarHandle" ∧ (parseMethodDescriptor yX2_audit.desc).map (fun d => d.parameters.length) = some 4 := by decide +kernel
theorem lcl_L_audit_13 : Cond.classLink RL 13 "java/lang/IndexOutOfBoundsException" ∈ wsL_audit := by decide +kernel
theorem lcl_L_audit_15 : Cond.classLink RL 15 "java/lang/IllegalArgumentException" ∈ wsL_audit := by decide +kernel
theorem lcl_L_audit_25 : Cond.classLink RL 25 "java/lang/IllegalStateException" ∈ wsL_audit := by decide +kernel
theorem hdV_X2_closeYear : yX2_closeYear.cls = RX2 ∧ yX2_closeYear.cls ≠ "java/lang/invoke/MethodHandle" ∧ yX2_closeYear.cls ≠ "java/lang/invoke/VarHandle" ∧ (parseMethodDescriptor yX2_closeYear.desc).map (fun d => d.parameters.length) = some 0 := by decide +kernel
theorem lcl_L_closeYear_25 : Cond.classLink RL 25 "java/lang/IllegalStateException" ∈ wsL_closeYear := by decide +kernel
theorem hdV_X2_pay : yX2_pay.cls = RX2 ∧ yX2_pay.cls ≠ "java/lang/invoke/MethodHandle" ∧ yX2_pay.cls ≠ "java/lang/invoke/VarHandle" ∧ (parseMethodDescriptor yX2_pay.desc).map (fun d => d.parameters.length) = some 1 := by decide +kernel
theorem lcl_L_pay_13 : Cond.classLink RL 13 "java/lang/IndexOutOfBoundsException" ∈ wsL_pay := by decide +kernel
theorem lcl_L_pay_25 : Cond.classLink RL 25 "java/lang/IllegalStateException" ∈ wsL_pay := by decide +kernel
theorem hdV_X2_gross : yX2_gross.cls = RX2 ∧ yX2_gross.cls ≠ "java/lang/invoke/MethodHandle" ∧ yX2_gross.cls ≠ "java/lang/invoke/VarHandle" ∧ (parseMethodDescriptor yX2_gross.desc).map (fun d => d.parameters.length) = some 1 := by decide +kernel
theorem lcl_L_gross_13 : Cond.classLink RL 13 "java/lang/IndexOutOfBoundsException" ∈ wsL_gross := by decide +kernel
theorem hdV_X2_adjusted : yX2_adjusted.cls = RX2 ∧ yX2_adjusted.cls ≠ "java/lang/invoke/MethodHandle" ∧ yX2_adjusted.cls ≠ "java/lang/invoke/VarHandle" ∧ (parseMethodDescriptor yX2_adjusted.desc).map (fun d => d.parameters.length) = some 1 := by decide +kernel
theorem lcl_L_adjusted_13 : Cond.classLink RL 13 "java/lang/IndexOutOfBoundsException" ∈ wsL_adjusted := by decide +kernel
theorem hdV_X2_fees : yX2_fees.cls = RX2 ∧ yX2_fees.cls ≠ "java/lang/invoke/MethodHandle" ∧ yX2_fees.cls ≠ "java/lang/invoke/VarHandle" ∧ (parseMethodDescriptor yX2_fees.desc).map (fun d => d.parameters.length) = some 1 := by decide +kernel
theorem lcl_L_fees_13 : Cond.classLink RL 13 "java/lang/IndexOutOfBoundsException" ∈ wsL_fees := by decide +kernel
theorem hdV_X2_balance : yX2_balance.cls = RX2 ∧ yX2_balance.cls ≠ "java/lang/invoke/MethodHandle" ∧ yX2_balance.cls ≠ "java/lang/invoke/VarHandle" ∧ (parseMethodDescriptor yX2_balance.desc).map (fun d => d.parameters.length) = some 2 := by decide +kernel
theorem lcl_L_balance_13 : Cond.classLink RL 13 "java/lang/IndexOutOfBoundsException" ∈ wsL_balance := by decide +kernel
theorem lcl_L_balance_15 : Cond.classLink RL 15 "java/lang/IllegalArgumentException" ∈ wsL_balance := by decide +kernel
theorem hdV_X2_profit : yX2_profit.cls = RX2 ∧ yX2_profit.cls ≠ "java/lang/invoke/MethodHandle" ∧ yX2_profit.cls ≠ "java/lang/invoke/VarHandle" ∧ (parseMethodDescriptor yX2_profit.desc).map (fun d => d.parameters.length) = some 2 := by decide +kernel
theorem lcl_L_profit_13 : Cond.classLink RL 13 "java/lang/IndexOutOfBoundsException" ∈ wsL_profit := by decide +kernel
theorem lcl_L_profit_15 : Cond.classLink RL 15 "java/lang/IllegalArgumentException" ∈ wsL_profit := by decide +kernel
theorem hdV_X2_pool : yX2_pool.cls = RX2 ∧ yX2_pool.cls ≠ "java/lang/invoke/MethodHandle" ∧ yX2_pool.cls ≠ "java/lang/invoke/VarHandle" ∧ (parseMethodDescriptor yX2_pool.desc).map (fun d => d.parameters.length) = some 1 := by decide +kernel
theorem lcl_L_pool_13 : Cond.classLink RL 13 "java/lang/IndexOutOfBoundsException" ∈ wsL_pool := by decide +kernel
theorem hdV_X2_sum : yX2_sum.cls = RX2 ∧ yX2_sum.cls ≠ "java/lang/invoke/MethodHandle" ∧ yX2_sum.cls ≠ "java/lang/invoke/VarHandle" ∧ (parseMethodDescriptor yX2_sum.desc).map (fun d => d.parameters.length) = some 1 := by decide +kernel
theorem lcl_L_sum_13 : Cond.classLink RL 13 "java/lang/IndexOutOfBoundsException" ∈ wsL_sum := by decide +kernel
theorem hdV_X2_paid : yX2_paid.cls = RX2 ∧ yX2_paid.cls ≠ "java/lang/invoke/MethodHandle" ∧ yX2_paid.cls ≠ "java/lang/invoke/VarHandle" ∧ (parseMethodDescriptor yX2_paid.desc).map (fun d => d.parameters.length) = some 1 := by decide +kernel
theorem lcl_L_paid_13 : Cond.classLink RL 13 "java/lang/IndexOutOfBoundsException" ∈ wsL_paid := by decide +kernel
theorem hdV_X2_owed : yX2_owed.cls = RX2 ∧ yX2_owed.cls ≠ "java/lang/invoke/MethodHandle" ∧ yX2_owed.cls ≠ "java/lang/invoke/VarHandle" ∧ (parseMethodDescriptor yX2_owed.desc).map (fun d => d.parameters.length) = some 1 := by decide +kernel
theorem lcl_L_owed_13 : Cond.classLink RL 13 "java/lang/IndexOutOfBoundsException" ∈ wsL_owed := by decide +kernel
