theorem lf_X3_thrown_56 : Cond.fieldLink RX3 56 "NetPointsModel" "thrown" "I" ∈ wsX3_thrown := by decide +kernel
theorem in_X3_thrown_4 : ∀ w ∈ u_ws RX3 TX3 19, w ∈ wsX3_thrown := by decide +kernel
theorem lf_X3_fails_56 : Cond.fieldLink RX3 56 "NetPointsModel" "thrown" "I" ∈ wsX3_fails := by decide +kernel
theorem in_X3_fails_4 : ∀ w ∈ u_ws RX3 TX3 19, w ∈ wsX3_fails := by decide +kernel
theorem pd_X3_18 : parseFieldDescriptor (TX3 18).2.2.1 = some (tyX3 18) := by decide +kernel
theorem hdS_X3_in : yX3_in.cls ≠ "java/lang/invoke/MethodHandle" ∧ yX3_in.cls ≠ "java/lang/invoke/VarHandle" ∧ (parseMethodDescriptor yX3_in.desc).map (fun d => d.parameters.length) = some 3 := by decide +kernel
theorem hdS_X3_isPicture : yX3_isPicture.cls ≠ "java/lang/invoke/MethodHandle" ∧ yX3_isPicture.cls ≠ "java/lang/invoke/VarHandle" ∧ (parseMethodDescriptor yX3_isPicture.desc).map (fun d => d.parameters.length) = some 1 := by decide +kernel
theorem lf_X3_setRates_56 : Cond.fieldLink RX3 56 "NetPointsModel" "thrown" "I" ∈ wsX3_setRates := by decide +kernel
theorem in_X3_setRates_4 : ∀ w ∈ u_ws RX3 TX3 19, w ∈ wsX3_setRates := by decide +kernel
theorem lf_X3_setRates_19 : Cond.fieldLink RX3 19 "NetPointsModel" "tops" "[I" ∈ wsX3_setRates := by decide +kernel
theorem lf_X3_setRates_22 : Cond.fieldLink RX3 22 "NetPointsModel" "overheads" "[I" ∈ wsX3_setRates := by decide +kernel
theorem lf_X3_setRates_25 : Cond.fieldLink RX3 25 "NetPointsModel" "interests" "[I" ∈ wsX3_setRates := by decide +kernel
theorem hdV_X3_fails : yX3_fails.cls = RX3 ∧ yX3_fails.cls ≠ "java/lang/invoke/MethodHandle" ∧ yX3_fails.cls ≠ "java/lang/invoke/VarHandle" ∧ (parseMethodDescriptor yX3_fails.desc).map (fun d => d.parameters.length) = some 1 := by decide +kernel
theorem lf_X3_setFee_56 : Cond.fieldLink RX3 56 "NetPointsModel" "thrown" "I" ∈ wsX3_setFee := by decide +kernel
theorem in_X3_setFee_4 : ∀ w ∈ u_ws RX3 TX3 19, w ∈ wsX3_setFee := by decide +kernel
theorem hdS_X3_isWindow : yX3_isWindow.cls ≠ "java/lang/invoke/MethodHandle" ∧ yX3_isWindow.cls ≠ "java/lang/invoke/VarHandle" ∧ (parseMethodDescriptor yX3_isWindow.desc).map (fun d => d.parameters.length) = some 2 := by decide +kernel
theorem lf_X3_setFee_16 : Cond.fieldLink RX3 16 "NetPointsModel" "feeRates" "[I" ∈ wsX3_setFee := by decide +kernel
theorem lf_X3_setCrossed_56 : Cond.fieldLink RX3 56 "NetPointsModel" "thrown" "I" ∈ wsX3_setCrossed := by decide +kernel
theorem in_X3_setCrossed_4 : ∀ w ∈ u_ws RX3 TX3 19, w ∈ wsX3_setCrossed := by decide +kernel
theorem lf_X3_setCrossed_76 : Cond.fieldLink RX3 76 "NetPointsModel" "crossed" "Z" ∈ wsX3_setCrossed := by decide +kernel
theorem pd_X3_6 : parseFieldDescriptor (TX3 6).2.2.1 = some (tyX3 6) := by decide +kernel
theorem lf_X3_receive_56 : Cond.fieldLink RX3 56 "NetPointsModel" "thrown" "I" ∈ wsX3_receive := by decide +kernel
theorem in_X3_receive_4 : ∀ w ∈ u_ws RX3 TX3 19, w ∈ wsX3_receive := by decide +kernel
theorem lc_X3_receive_84 : Cond.constant RX3 84 (200000) ∈ wsX3_receive := by decide +kernel
theorem lf_X3_receive_7 : Cond.fieldLink RX3 7 "NetPointsModel" "receipts" "[I" ∈ wsX3_receive := by decide +kernel
theorem lf_X3_receive_85 : Cond.fieldLink RX3 85 "NetPointsModel" "now" "I" ∈ wsX3_receive := by decide +kernel
theorem hdS_X3_at : yX3_at.cls ≠ "java/lang/invoke/MethodHandle" ∧ yX3_at.cls ≠ "java/lang/invoke/VarHandle" ∧ (parseMethodDescriptor yX3_at.desc).map (fun d => d.parameters.length) = some 3 := by decide +kernel
theorem lf_X3_spend_56 : Cond.fieldLink RX3 56 "NetPointsModel" "thrown" "I" ∈ wsX3_spend := by decide +kernel
theorem in_X3_spend_4 : ∀ w ∈ u_ws RX3 TX3 19, w ∈ wsX3_spend := by decide +kernel
theorem lc_X3_spend_84 : Cond.constant RX3 84 (200000) ∈ wsX3_spend := by decide +kernel
theorem lf_X3_spend_13 : Cond.fieldLink RX3 13 "NetPointsModel" "costs" "[I" ∈ wsX3_spend := by decide +kernel
theorem lf_X3_spend_85 : Cond.fieldLink RX3 85 "NetPointsModel" "now" "I" ∈ wsX3_spend := by decide +kernel
theorem lf_X3_audit_56 : Cond.fieldLink RX3 56 "NetPointsModel" "thrown" "I" ∈ wsX3_audit := by decide +kernel
theorem in_X3_audit_4 : ∀ w ∈ u_ws RX3 TX3 19, w ∈ wsX3_audit := by decide +kernel
theorem lc_X3_audit_92 : Cond.constant RX3 92 (1000000) ∈ wsX3_audit := by decide +kernel
theorem lf_X3_audit_85 : Cond.fieldLink RX3 85 "NetPointsModel" "now" "I" ∈ wsX3_audit := by decide +kernel
theorem lf_X3_audit_7 : Cond.fieldLink RX3 7 "NetPointsModel" "receipts" "[I" ∈ wsX3_audit := by decide +kernel
theorem lf_X3_closeYear_56 : Cond.fieldLink RX3 56 "NetPointsModel" "thrown" "I" ∈ wsX3_closeYear := by decide +kernel
theorem in_X3_closeYear_4 : ∀ w ∈ u_ws RX3 TX3 19, w ∈ wsX3_closeYear := by decide +kernel
theorem lf_X3_closeYear_85 : Cond.fieldLink RX3 85 "NetPointsModel" "now" "I" ∈ wsX3_closeYear := by decide +kernel
theorem pd_X3_7 : parseFieldDescriptor (TX3 7).2.2.1 = some (tyX3 7) := by decide +kernel
theorem lf_X3_year_56 : Cond.fieldLink RX3 56 "NetPointsModel" "thrown" "I" ∈ wsX3_year := by decide +kernel
theorem in_X3_year_4 : ∀ w ∈ u_ws RX3 TX3 19, w ∈ wsX3_year := by decide +kernel
theorem lf_X3_year_85 : Cond.fieldLink RX3 85 "NetPointsModel" "now" "I" ∈ wsX3_year := by decide +kernel
theorem lf_X3_sharers_56 : Cond.fieldLink RX3 56 "NetPointsModel" "thrown" "I" ∈ wsX3_sharers := by decide +kernel
theorem in_X3_sharers_4 : ∀ w ∈ u_ws RX3 TX3 19, w ∈ wsX3_sharers := by decide +kernel
theorem lf_X3_sharers_81 : Cond.fieldLink RX3 81 "NetPointsModel" "many" "I" ∈ wsX3_sharers := by decide +kernel
theorem lf_X3_grossOf_7 : Cond.fieldLink RX3 7 "NetPointsModel" "receipts" "[I" ∈ wsX3_grossOf := by decide +kernel
theorem in_X3_grossOf_4 : ∀ w ∈ u_ws RX3 TX3 19, w ∈ wsX3_grossOf := by decide +kernel
theorem hdV_X3_grossOf : yX3_grossOf.cls = RX3 ∧ yX3_grossOf.cls ≠ "java/lang/invoke/MethodHandle" ∧ yX3_grossOf.cls ≠ "java/lang/invoke/VarHandle" ∧ (parseMethodDescriptor yX3_grossOf.desc).map (fun d => d.parameters.length) = some 2 := by decide +kernel
theorem lf_X3_adjustedOf_19 : Cond.fieldLink RX3 19 "NetPointsModel" "tops" "[I" ∈ wsX3_adjustedOf := by decide +kernel
theorem in_X3_adjustedOf_4 : ∀ w ∈ u_ws RX3 TX3 19, w ∈ wsX3_adjustedOf := by decide +kernel
theorem lc_X3_adjustedOf_97 : Cond.constantLong RX3 97 (10000) ∈ wsX3_adjustedOf := by decide +kernel
theorem lf_X3_feesOf_7 : Cond.fieldLink RX3 7 "NetPointsModel" "receipts" "[I" ∈ wsX3_feesOf := by decide +kernel
theorem in_X3_feesOf_4 : ∀ w ∈ u_ws RX3 TX3 19, w ∈ wsX3_feesOf := by decide +kernel
theorem lf_X3_feesOf_16 : Cond.fieldLink RX3 16 "NetPointsModel" "feeRates" "[I" ∈ wsX3_feesOf := by decide +kernel
theorem lc_X3_feesOf_97 : Cond.constantLong RX3 97 (10000) ∈ wsX3_feesOf := by decide +kernel
theorem lf_X3_parted_34 : Cond.fieldLink RX3 34 "NetPointsModel" "limits" "[I" ∈ wsX3_parted := by decide +kernel
theorem in_X3_parted_4 : ∀ w ∈ u_ws RX3 TX3 19, w ∈ wsX3_parted := by decide +kernel
theorem lf_X3_parted_37 : Cond.fieldLink RX3 37 "NetPointsModel" "firsts" "[I" ∈ wsX3_parted := by decide +kernel
theorem lf_X3_parted_40 : Cond.fieldLink RX3 40 "NetPointsModel" "seconds" "[I" ∈ wsX3_parted := by decide +kernel
theorem lc_X3_parted_97 : Cond.constantLong RX3 97 (10000) ∈ wsX3_parted := by decide +kernel
