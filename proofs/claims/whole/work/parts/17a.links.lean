theorem lf_X3_lay_85 : Cond.fieldLink RX3 85 "NetPointsModel" "now" "I" ∈ wsX3_lay := by decide +kernel
theorem in_X3_lay_4 : ∀ w ∈ u_ws RX3 TX3 19, w ∈ wsX3_lay := by decide +kernel
theorem lf_X3_lay_13 : Cond.fieldLink RX3 13 "NetPointsModel" "costs" "[I" ∈ wsX3_lay := by decide +kernel
theorem lf_X3_lay_22 : Cond.fieldLink RX3 22 "NetPointsModel" "overheads" "[I" ∈ wsX3_lay := by decide +kernel
theorem lc_X3_lay_97 : Cond.constantLong RX3 97 (10000) ∈ wsX3_lay := by decide +kernel
theorem lf_X3_lay_81 : Cond.fieldLink RX3 81 "NetPointsModel" "many" "I" ∈ wsX3_lay := by decide +kernel
theorem hdV_X3_feesOf : yX3_feesOf.cls = RX3 ∧ yX3_feesOf.cls ≠ "java/lang/invoke/MethodHandle" ∧ yX3_feesOf.cls ≠ "java/lang/invoke/VarHandle" ∧ (parseMethodDescriptor yX3_feesOf.desc).map (fun d => d.parameters.length) = some 2 := by decide +kernel
theorem lf_X3_lay_53 : Cond.fieldLink RX3 53 "NetPointsModel" "gained" "[J" ∈ wsX3_lay := by decide +kernel
theorem lf_X3_lay_46 : Cond.fieldLink RX3 46 "NetPointsModel" "balances" "[J" ∈ wsX3_lay := by decide +kernel
theorem lf_X3_lay_50 : Cond.fieldLink RX3 50 "NetPointsModel" "profits" "[J" ∈ wsX3_lay := by decide +kernel
theorem lf_X3_lay_28 : Cond.fieldLink RX3 28 "NetPointsModel" "pictures" "[I" ∈ wsX3_lay := by decide +kernel
theorem lf_X3_lay_31 : Cond.fieldLink RX3 31 "NetPointsModel" "kinds" "[I" ∈ wsX3_lay := by decide +kernel
theorem hdV_X3_upTo : yX3_upTo.cls = RX3 ∧ yX3_upTo.cls ≠ "java/lang/invoke/MethodHandle" ∧ yX3_upTo.cls ≠ "java/lang/invoke/VarHandle" ∧ (parseMethodDescriptor yX3_upTo.desc).map (fun d => d.parameters.length) = some 2 := by decide +kernel
theorem lf_X3_lay_25 : Cond.fieldLink RX3 25 "NetPointsModel" "interests" "[I" ∈ wsX3_lay := by decide +kernel
theorem lf_X3_lay_76 : Cond.fieldLink RX3 76 "NetPointsModel" "crossed" "Z" ∈ wsX3_lay := by decide +kernel
theorem hdV_X3_move : yX3_move.cls = RX3 ∧ yX3_move.cls ≠ "java/lang/invoke/MethodHandle" ∧ yX3_move.cls ≠ "java/lang/invoke/VarHandle" ∧ (parseMethodDescriptor yX3_move.desc).map (fun d => d.parameters.length) = some 3 := by decide +kernel
