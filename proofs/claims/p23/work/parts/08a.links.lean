theorem lf_X2_requireSharer_22 : Cond.fieldLink RX2 22 "NetPoints" "allSharers" "Ljava/util/ArrayList;" ∈ wsX2_requireSharer := by decide +kernel
theorem in_X2_requireSharer_3 : ∀ w ∈ u_ws RX2 TX2 5, w ∈ wsX2_requireSharer := by decide +kernel
theorem lf_X2_pictureOf_10 : Cond.fieldLink RX2 10 "NetPoints" "picture0" "LNetPoints$Picture;" ∈ wsX2_pictureOf := by decide +kernel
theorem in_X2_pictureOf_3 : ∀ w ∈ u_ws RX2 TX2 5, w ∈ wsX2_pictureOf := by decide +kernel
theorem lf_X2_pictureOf_16 : Cond.fieldLink RX2 16 "NetPoints" "picture1" "LNetPoints$Picture;" ∈ wsX2_pictureOf := by decide +kernel
theorem hdS_X2_requirePicture : yX2_requirePicture.cls ≠ "java/lang/invoke/MethodHandle" ∧ yX2_requirePicture.cls ≠ "java/lang/invoke/VarHandle" ∧ (parseMethodDescriptor yX2_requirePicture.desc).map (fun d => d.parameters.length) = some 1 := by decide +kernel
theorem hdS_X2_requireRange : yX2_requireRange.cls ≠ "java/lang/invoke/MethodHandle" ∧ yX2_requireRange.cls ≠ "java/lang/invoke/VarHandle" ∧ (parseMethodDescriptor yX2_requireRange.desc).map (fun d => d.parameters.length) = some 3 := by decide +kernel
theorem hdV_X2_pictureOf : yX2_pictureOf.cls = RX2 ∧ yX2_pictureOf.cls ≠ "java/lang/invoke/MethodHandle" ∧ yX2_pictureOf.cls ≠ "java/lang/invoke/VarHandle" ∧ (parseMethodDescriptor yX2_pictureOf.desc).map (fun d => d.parameters.length) = some 1 := by decide +kernel
theorem lf_X2_setRates_46 : Cond.fieldLink RX2 46 "NetPoints$Picture" "topRate" "I" ∈ wsX2_setRates := by decide +kernel
theorem in_X2_setRates_1 : ∀ w ∈ u_ws RX0 TX0 15, w ∈ wsX2_setRates := by decide +kernel
theorem pd_X0_4 : parseFieldDescriptor (TX0 4).2.2.1 = some (tyX0 4) := by decide +kernel
theorem lf_X2_setRates_49 : Cond.fieldLink RX2 49 "NetPoints$Picture" "overheadRate" "I" ∈ wsX2_setRates := by decide +kernel
theorem pd_X0_5 : parseFieldDescriptor (TX0 5).2.2.1 = some (tyX0 5) := by decide +kernel
theorem lf_X2_setRates_52 : Cond.fieldLink RX2 52 "NetPoints$Picture" "interestRate" "I" ∈ wsX2_setRates := by decide +kernel
theorem pd_X0_6 : parseFieldDescriptor (TX0 6).2.2.1 = some (tyX0 6) := by decide +kernel
theorem hdS_X2_requireWindow : yX2_requireWindow.cls ≠ "java/lang/invoke/MethodHandle" ∧ yX2_requireWindow.cls ≠ "java/lang/invoke/VarHandle" ∧ (parseMethodDescriptor yX2_requireWindow.desc).map (fun d => d.parameters.length) = some 1 := by decide +kernel
theorem lf_X2_setFee_58 : Cond.fieldLink RX2 58 "NetPoints$Picture" "feeRates" "[I" ∈ wsX2_setFee := by decide +kernel
theorem in_X2_setFee_1 : ∀ w ∈ u_ws RX0 TX0 15, w ∈ wsX2_setFee := by decide +kernel
theorem lf_X2_setCrossed_26 : Cond.fieldLink RX2 26 "NetPoints" "crossed" "Z" ∈ wsX2_setCrossed := by decide +kernel
theorem in_X2_setCrossed_3 : ∀ w ∈ u_ws RX2 TX2 5, w ∈ wsX2_setCrossed := by decide +kernel
theorem pd_X2_3 : parseFieldDescriptor (TX2 3).2.2.1 = some (tyX2 3) := by decide +kernel
theorem lc_X2_receive_89 : Cond.constant RX2 89 (200000) ∈ wsX2_receive := by decide +kernel
theorem lf_X2_receive_90 : Cond.fieldLink RX2 90 "NetPoints$Picture" "receipts" "[[I" ∈ wsX2_receive := by decide +kernel
theorem in_X2_receive_1 : ∀ w ∈ u_ws RX0 TX0 15, w ∈ wsX2_receive := by decide +kernel
theorem lf_X2_receive_30 : Cond.fieldLink RX2 30 "NetPoints" "yearOfNow" "I" ∈ wsX2_receive := by decide +kernel
theorem in_X2_receive_3 : ∀ w ∈ u_ws RX2 TX2 5, w ∈ wsX2_receive := by decide +kernel
theorem lc_X2_spend_89 : Cond.constant RX2 89 (200000) ∈ wsX2_spend := by decide +kernel
theorem lf_X2_spend_94 : Cond.fieldLink RX2 94 "NetPoints$Picture" "costs" "[I" ∈ wsX2_spend := by decide +kernel
theorem in_X2_spend_1 : ∀ w ∈ u_ws RX0 TX0 15, w ∈ wsX2_spend := by decide +kernel
theorem lf_X2_spend_30 : Cond.fieldLink RX2 30 "NetPoints" "yearOfNow" "I" ∈ wsX2_spend := by decide +kernel
theorem in_X2_spend_3 : ∀ w ∈ u_ws RX2 TX2 5, w ∈ wsX2_spend := by decide +kernel
theorem lf_X2_closeYear_30 : Cond.fieldLink RX2 30 "NetPoints" "yearOfNow" "I" ∈ wsX2_closeYear := by decide +kernel
theorem in_X2_closeYear_3 : ∀ w ∈ u_ws RX2 TX2 5, w ∈ wsX2_closeYear := by decide +kernel
theorem pd_X2_4 : parseFieldDescriptor (TX2 4).2.2.1 = some (tyX2 4) := by decide +kernel
theorem lf_X2_year_30 : Cond.fieldLink RX2 30 "NetPoints" "yearOfNow" "I" ∈ wsX2_year := by decide +kernel
theorem in_X2_year_3 : ∀ w ∈ u_ws RX2 TX2 5, w ∈ wsX2_year := by decide +kernel
