theorem lf_X3_add_56 : Cond.fieldLink RX3 56 "NetPointsModel" "thrown" "I" ∈ wsX3_add := by decide +kernel
theorem in_X3_add_4 : ∀ w ∈ u_ws RX3 TX3 19, w ∈ wsX3_add := by decide +kernel
theorem lc_X3_add_80 : Cond.constant RX3 80 (10000000) ∈ wsX3_add := by decide +kernel
theorem lf_X3_add_81 : Cond.fieldLink RX3 81 "NetPointsModel" "many" "I" ∈ wsX3_add := by decide +kernel
theorem lf_X3_add_28 : Cond.fieldLink RX3 28 "NetPointsModel" "pictures" "[I" ∈ wsX3_add := by decide +kernel
theorem lf_X3_add_31 : Cond.fieldLink RX3 31 "NetPointsModel" "kinds" "[I" ∈ wsX3_add := by decide +kernel
theorem lf_X3_add_34 : Cond.fieldLink RX3 34 "NetPointsModel" "limits" "[I" ∈ wsX3_add := by decide +kernel
theorem lf_X3_add_37 : Cond.fieldLink RX3 37 "NetPointsModel" "firsts" "[I" ∈ wsX3_add := by decide +kernel
theorem lf_X3_add_40 : Cond.fieldLink RX3 40 "NetPointsModel" "seconds" "[I" ∈ wsX3_add := by decide +kernel
theorem pd_X3_14 : parseFieldDescriptor (TX3 14).2.2.1 = some (tyX3 14) := by decide +kernel
theorem lml_X3_init_1 : Cond.methodLink RX3 1 objectInit ∈ wsX3_init := by decide +kernel
theorem lin_X3_init_obj : Cond.instanceMethod objectInit ∈ wsX3_init := by decide +kernel
theorem lcd_X3_init_obj : Cond.code objectInit ⟨#[0xb1]⟩ 1 none ∈ wsX3_init := by decide +kernel
theorem larr_X3_init_int : Cond.arrayClass .int ∈ wsX3_init := by decide +kernel
theorem lf_X3_init_7 : Cond.fieldLink RX3 7 "NetPointsModel" "receipts" "[I" ∈ wsX3_init := by decide +kernel
theorem in_X3_init_4 : ∀ w ∈ u_ws RX3 TX3 19, w ∈ wsX3_init := by decide +kernel
theorem pd_X3_0 : parseFieldDescriptor (TX3 0).2.2.1 = some (tyX3 0) := by decide +kernel
theorem lf_X3_init_13 : Cond.fieldLink RX3 13 "NetPointsModel" "costs" "[I" ∈ wsX3_init := by decide +kernel
theorem pd_X3_1 : parseFieldDescriptor (TX3 1).2.2.1 = some (tyX3 1) := by decide +kernel
theorem lf_X3_init_16 : Cond.fieldLink RX3 16 "NetPointsModel" "feeRates" "[I" ∈ wsX3_init := by decide +kernel
theorem pd_X3_2 : parseFieldDescriptor (TX3 2).2.2.1 = some (tyX3 2) := by decide +kernel
theorem lf_X3_init_19 : Cond.fieldLink RX3 19 "NetPointsModel" "tops" "[I" ∈ wsX3_init := by decide +kernel
theorem pd_X3_3 : parseFieldDescriptor (TX3 3).2.2.1 = some (tyX3 3) := by decide +kernel
theorem lf_X3_init_22 : Cond.fieldLink RX3 22 "NetPointsModel" "overheads" "[I" ∈ wsX3_init := by decide +kernel
theorem pd_X3_4 : parseFieldDescriptor (TX3 4).2.2.1 = some (tyX3 4) := by decide +kernel
theorem lf_X3_init_25 : Cond.fieldLink RX3 25 "NetPointsModel" "interests" "[I" ∈ wsX3_init := by decide +kernel
theorem pd_X3_5 : parseFieldDescriptor (TX3 5).2.2.1 = some (tyX3 5) := by decide +kernel
theorem lf_X3_init_28 : Cond.fieldLink RX3 28 "NetPointsModel" "pictures" "[I" ∈ wsX3_init := by decide +kernel
theorem pd_X3_8 : parseFieldDescriptor (TX3 8).2.2.1 = some (tyX3 8) := by decide +kernel
theorem lf_X3_init_31 : Cond.fieldLink RX3 31 "NetPointsModel" "kinds" "[I" ∈ wsX3_init := by decide +kernel
theorem pd_X3_9 : parseFieldDescriptor (TX3 9).2.2.1 = some (tyX3 9) := by decide +kernel
theorem lf_X3_init_34 : Cond.fieldLink RX3 34 "NetPointsModel" "limits" "[I" ∈ wsX3_init := by decide +kernel
theorem pd_X3_10 : parseFieldDescriptor (TX3 10).2.2.1 = some (tyX3 10) := by decide +kernel
theorem lf_X3_init_37 : Cond.fieldLink RX3 37 "NetPointsModel" "firsts" "[I" ∈ wsX3_init := by decide +kernel
theorem pd_X3_11 : parseFieldDescriptor (TX3 11).2.2.1 = some (tyX3 11) := by decide +kernel
theorem lf_X3_init_40 : Cond.fieldLink RX3 40 "NetPointsModel" "seconds" "[I" ∈ wsX3_init := by decide +kernel
theorem pd_X3_12 : parseFieldDescriptor (TX3 12).2.2.1 = some (tyX3 12) := by decide +kernel
theorem lf_X3_init_43 : Cond.fieldLink RX3 43 "NetPointsModel" "paidTo" "[I" ∈ wsX3_init := by decide +kernel
theorem pd_X3_13 : parseFieldDescriptor (TX3 13).2.2.1 = some (tyX3 13) := by decide +kernel
theorem larr_X3_init_long : Cond.arrayClass .long ∈ wsX3_init := by decide +kernel
theorem lf_X3_init_46 : Cond.fieldLink RX3 46 "NetPointsModel" "balances" "[J" ∈ wsX3_init := by decide +kernel
theorem pd_X3_15 : parseFieldDescriptor (TX3 15).2.2.1 = some (tyX3 15) := by decide +kernel
theorem lf_X3_init_50 : Cond.fieldLink RX3 50 "NetPointsModel" "profits" "[J" ∈ wsX3_init := by decide +kernel
theorem pd_X3_16 : parseFieldDescriptor (TX3 16).2.2.1 = some (tyX3 16) := by decide +kernel
theorem lf_X3_init_53 : Cond.fieldLink RX3 53 "NetPointsModel" "gained" "[J" ∈ wsX3_init := by decide +kernel
theorem pd_X3_17 : parseFieldDescriptor (TX3 17).2.2.1 = some (tyX3 17) := by decide +kernel
