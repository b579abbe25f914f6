theorem lf_X3_upTo_31 : Cond.fieldLink RX3 31 "NetPointsModel" "kinds" "[I" ∈ wsX3_upTo := by decide +kernel
theorem in_X3_upTo_4 : ∀ w ∈ u_ws RX3 TX3 19, w ∈ wsX3_upTo := by decide +kernel
theorem lf_X3_upTo_34 : Cond.fieldLink RX3 34 "NetPointsModel" "limits" "[I" ∈ wsX3_upTo := by decide +kernel
theorem lc_X3_upTo_106 : Cond.constantLong RX3 106 (100) ∈ wsX3_upTo := by decide +kernel
theorem lf_X3_upTo_37 : Cond.fieldLink RX3 37 "NetPointsModel" "firsts" "[I" ∈ wsX3_upTo := by decide +kernel
theorem hdV_X3_parted : yX3_parted.cls = RX3 ∧ yX3_parted.cls ≠ "java/lang/invoke/MethodHandle" ∧ yX3_parted.cls ≠ "java/lang/invoke/VarHandle" ∧ (parseMethodDescriptor yX3_parted.desc).map (fun d => d.parameters.length) = some 2 := by decide +kernel
theorem lf_X3_upTo_28 : Cond.fieldLink RX3 28 "NetPointsModel" "pictures" "[I" ∈ wsX3_upTo := by decide +kernel
theorem hdV_X3_adjustedOf : yX3_adjustedOf.cls = RX3 ∧ yX3_adjustedOf.cls ≠ "java/lang/invoke/MethodHandle" ∧ yX3_adjustedOf.cls ≠ "java/lang/invoke/VarHandle" ∧ (parseMethodDescriptor yX3_adjustedOf.desc).map (fun d => d.parameters.length) = some 2 := by decide +kernel
theorem lf_X3_move_53 : Cond.fieldLink RX3 53 "NetPointsModel" "gained" "[J" ∈ wsX3_move := by decide +kernel
theorem in_X3_move_4 : ∀ w ∈ u_ws RX3 TX3 19, w ∈ wsX3_move := by decide +kernel
theorem lf_X3_move_46 : Cond.fieldLink RX3 46 "NetPointsModel" "balances" "[J" ∈ wsX3_move := by decide +kernel
theorem lf_X3_move_50 : Cond.fieldLink RX3 50 "NetPointsModel" "profits" "[J" ∈ wsX3_move := by decide +kernel
theorem lf_X3_deferred_50 : Cond.fieldLink RX3 50 "NetPointsModel" "profits" "[J" ∈ wsX3_deferred := by decide +kernel
theorem in_X3_deferred_4 : ∀ w ∈ u_ws RX3 TX3 19, w ∈ wsX3_deferred := by decide +kernel
theorem lf_X3_deferred_85 : Cond.fieldLink RX3 85 "NetPointsModel" "now" "I" ∈ wsX3_deferred := by decide +kernel
theorem lf_X3_deferred_28 : Cond.fieldLink RX3 28 "NetPointsModel" "pictures" "[I" ∈ wsX3_deferred := by decide +kernel
theorem lf_X3_deferred_31 : Cond.fieldLink RX3 31 "NetPointsModel" "kinds" "[I" ∈ wsX3_deferred := by decide +kernel
theorem lf_X3_deferred_34 : Cond.fieldLink RX3 34 "NetPointsModel" "limits" "[I" ∈ wsX3_deferred := by decide +kernel
theorem lf_X3_isSharer_81 : Cond.fieldLink RX3 81 "NetPointsModel" "many" "I" ∈ wsX3_isSharer := by decide +kernel
theorem in_X3_isSharer_4 : ∀ w ∈ u_ws RX3 TX3 19, w ∈ wsX3_isSharer := by decide +kernel
theorem lf_X3_isSharer_56 : Cond.fieldLink RX3 56 "NetPointsModel" "thrown" "I" ∈ wsX3_isSharer := by decide +kernel
theorem lf_X3_isYear_85 : Cond.fieldLink RX3 85 "NetPointsModel" "now" "I" ∈ wsX3_isYear := by decide +kernel
theorem in_X3_isYear_4 : ∀ w ∈ u_ws RX3 TX3 19, w ∈ wsX3_isYear := by decide +kernel
theorem lf_X3_isYear_56 : Cond.fieldLink RX3 56 "NetPointsModel" "thrown" "I" ∈ wsX3_isYear := by decide +kernel
