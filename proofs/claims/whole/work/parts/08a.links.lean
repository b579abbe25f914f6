theorem lcl_X2_requirePicture_148 : Cond.classLink RX2 148 "java/lang/IndexOutOfBoundsException" ∈ wsX2_requirePicture := by decide +kernel
theorem lini_X2_requirePicture_IndexOutOfBoundsException : Cond.initialized "java/lang/IndexOutOfBoundsException" ∈ wsX2_requirePicture := by decide +kernel
theorem lat_X2_requirePicture_152 : ∀ w ∈ (vx_atS RX2 152 "java/lang/IndexOutOfBoundsException" ["java/lang/RuntimeException", "java/lang/Exception"]).filter goodWord, w ∈ wsX2_requirePicture := by decide +kernel
theorem lnat_152_IndexOutOfBoundsException : (vx_atS RX2 152 "java/lang/IndexOutOfBoundsException" ["java/lang/RuntimeException", "java/lang/Exception"]).filter (fun w => !goodWord w) = xdecl.map Cond.declares ++ [.castable "java/lang/IndexOutOfBoundsException" "java/lang/IndexOutOfBoundsException"] := by decide +kernel
theorem lgood_148_152_IndexOutOfBoundsException : (Cond.classLink RX2 148 "java/lang/IndexOutOfBoundsException" :: Cond.initialized "java/lang/IndexOutOfBoundsException" :: vx_atS RX2 152 "java/lang/IndexOutOfBoundsException" ["java/lang/RuntimeException", "java/lang/Exception"]).all vx_ot = true := by decide +kernel
theorem lfit_IndexOutOfBoundsException : Bundle.fit "java/lang/IndexOutOfBoundsException" = true := by decide +kernel
theorem lcl_X2_requireWindow_148 : Cond.classLink RX2 148 "java/lang/IndexOutOfBoundsException" ∈ wsX2_requireWindow := by decide +kernel
theorem lini_X2_requireWindow_IndexOutOfBoundsException : Cond.initialized "java/lang/IndexOutOfBoundsException" ∈ wsX2_requireWindow := by decide +kernel
theorem lat_X2_requireWindow_152 : ∀ w ∈ (vx_atS RX2 152 "java/lang/IndexOutOfBoundsException" ["java/lang/RuntimeException", "java/lang/Exception"]).filter goodWord, w ∈ wsX2_requireWindow := by decide +kernel
theorem lcl_X2_requireRange_155 : Cond.classLink RX2 155 "java/lang/IllegalArgumentException" ∈ wsX2_requireRange := by decide +kernel
theorem lini_X2_requireRange_IllegalArgumentException : Cond.initialized "java/lang/IllegalArgumentException" ∈ wsX2_requireRange := by decide +kernel
theorem lat_X2_requireRange_159 : ∀ w ∈ (vx_atS RX2 159 "java/lang/IllegalArgumentException" ["java/lang/RuntimeException", "java/lang/Exception"]).filter goodWord, w ∈ wsX2_requireRange := by decide +kernel
theorem lnat_159_IllegalArgumentException : (vx_atS RX2 159 "java/lang/IllegalArgumentException" ["java/lang/RuntimeException", "java/lang/Exception"]).filter (fun w => !goodWord w) = xdecl.map Cond.declares ++ [.castable "java/lang/IllegalArgumentException" "java/lang/IllegalArgumentException"] := by decide +kernel
theorem lgood_155_159_IllegalArgumentException : (Cond.classLink RX2 155 "java/lang/IllegalArgumentException" :: Cond.initialized "java/lang/IllegalArgumentException" :: vx_atS RX2 159 "java/lang/IllegalArgumentException" ["java/lang/RuntimeException", "java/lang/Exception"]).all vx_ot = true := by decide +kernel
theorem lfit_IllegalArgumentException : Bundle.fit "java/lang/IllegalArgumentException" = true := by decide +kernel
theorem lf_X2_requireSharer_22 : Cond.fieldLink RX2 22 "NetPoints" "allSharers" "Ljava/util/ArrayList;" ∈ wsX2_requireSharer := by decide +kernel
theorem in_X2_requireSharer_3 : ∀ w ∈ u_ws RX2 TX2 5, w ∈ wsX2_requireSharer := by decide +kernel
theorem lcl_X2_requireSharer_148 : Cond.classLink RX2 148 "java/lang/IndexOutOfBoundsException" ∈ wsX2_requireSharer := by decide +kernel
theorem lini_X2_requireSharer_IndexOutOfBoundsException : Cond.initialized "java/lang/IndexOutOfBoundsException" ∈ wsX2_requireSharer := by decide +kernel
theorem lat_X2_requireSharer_152 : ∀ w ∈ (vx_atS RX2 152 "java/lang/IndexOutOfBoundsException" ["java/lang/RuntimeException", "java/lang/Exception"]).filter goodWord, w ∈ wsX2_requireSharer := by decide +kernel
theorem lf_X2_requireOpenToAudit_30 : Cond.fieldLink RX2 30 "NetPoints" "yearOfNow" "I" ∈ wsX2_requireOpenToAudit := by decide +kernel
theorem in_X2_requireOpenToAudit_3 : ∀ w ∈ u_ws RX2 TX2 5, w ∈ wsX2_requireOpenToAudit := by decide +kernel
theorem lcl_X2_requireOpenToAudit_101 : Cond.classLink RX2 101 "java/lang/IllegalStateException" ∈ wsX2_requireOpenToAudit := by decide +kernel
theorem lini_X2_requireOpenToAudit_IllegalStateException : Cond.initialized "java/lang/IllegalStateException" ∈ wsX2_requireOpenToAudit := by decide +kernel
theorem lat_X2_requireOpenToAudit_105 : ∀ w ∈ (vx_atS RX2 105 "java/lang/IllegalStateException" ["java/lang/RuntimeException", "java/lang/Exception"]).filter goodWord, w ∈ wsX2_requireOpenToAudit := by decide +kernel
theorem lnat_105_IllegalStateException : (vx_atS RX2 105 "java/lang/IllegalStateException" ["java/lang/RuntimeException", "java/lang/Exception"]).filter (fun w => !goodWord w) = xdecl.map Cond.declares ++ [.castable "java/lang/IllegalStateException" "java/lang/IllegalStateException"] := by decide +kernel
theorem lgood_101_105_IllegalStateException : (Cond.classLink RX2 101 "java/lang/IllegalStateException" :: Cond.initialized "java/lang/IllegalStateException" :: vx_atS RX2 105 "java/lang/IllegalStateException" ["java/lang/RuntimeException", "java/lang/Exception"]).all vx_ot = true := by decide +kernel
theorem lfit_IllegalStateException : Bundle.fit "java/lang/IllegalStateException" = true := by decide +kernel
theorem lf_X2_pictureOf_10 : Cond.fieldLink RX2 10 "NetPoints" "picture0" "LNetPoints$Picture;" ∈ wsX2_pictureOf := by decide +kernel
theorem in_X2_pictureOf_3 : ∀ w ∈ u_ws RX2 TX2 5, w ∈ wsX2_pictureOf := by decide +kernel
theorem lf_X2_pictureOf_16 : Cond.fieldLink RX2 16 "NetPoints" "picture1" "LNetPoints$Picture;" ∈ wsX2_pictureOf := by decide +kernel
theorem hdS_X2_requirePicture : yX2_requirePicture.cls ≠ "java/lang/invoke/MethodHandle" ∧ yX2_requirePicture.cls ≠ "java/lang/invoke/VarHandle" ∧ (parseMethodDescriptor yX2_requirePicture.desc).map (fun d => d.parameters.length) = some 1 := by decide +kernel
theorem hdS_X2_requireRange : yX2_requireRange.cls ≠ "java/lang/invoke/MethodHandle" ∧ yX2_requireRange.cls ≠ "java/lang/invoke/VarHandle" ∧ (parseMethodDescriptor yX2_requireRange.desc).map (fun d => d.parameters.length) = some 3 := by decide +kernel
theorem hdV_X2_pictureOf : yX2_pictureOf.cls = RX2 ∧ yX2_pictureOf.cls ≠ "java/lang/invoke/MethodHandle" ∧ yX2_pictureOf.cls ≠ "java/lang/invoke/VarHandle" ∧ (parseMethodDescriptor yX2_pictureOf.desc).map (fun d => d.parameters.length) = some 1 := by decide +kernel
theorem lf_X2_setRates_46 : Cond.fieldLink RX2 46 "NetPoints$Picture" "topRate" "I" ∈ wsX2_setRates := by decide +kernel
theorem in_X2_setRates_1 : ∀ w ∈ u_ws RX0 TX0 15, w ∈ wsX2_setRates := by decide +kernel
theorem pd_X0_4 : parseFieldDescriptor (TX0 4).2.2.1 = some (tyX0 4) := by decide +kernel
theorem lf_X2_setRates_49 : Cond.fieldLink RX2 49 "NetPoints$Picture" "overheadRate" "I" ∈ wsX2_setRates := by decide +kernel
theorem pd_X0_5 : parseFieldDescriptor (TX0 5).2.2.1 = some (tyX0 5) := by decide +kernel
theorem lf_X2_setRates_52 : Cond.fieldLink RX2 52 "NetPoints$Picture" "interestRate" "I" ∈ wsX2_setRates := by decide +kernel
theorem pd_X0_6 : parseFieldDescriptor (TX0 6).2.2.1 = some (tyX0 6) := by decide +kernel
theorem hdS_X2_requireWindow : yX2_requireWindow.cls ≠ "java/lang/invoke/MethodHandle" ∧ yX2_requireWindow.cls ≠ "java/lang/invoke/VarHandle" ∧ (parseMethodDescriptor yX2_requireWindow.desc).map (fun d => d.parameters.length) = some 1 := by decide +kernel
theorem lf_X2_setFee_58 : Cond.fieldLink RX2 58 "NetPoints$Picture" "feeRates" "[I" ∈ wsX2_setFee := by decide +kernel
theorem in_X2_setFee_1 : ∀ w ∈ u_ws RX0 TX0 15, w ∈ wsX2_setFee := by decide +kernel
theorem lf_X2_setCrossed_26 : Cond.fieldLink RX2 26 "NetPoints" "crossed" "Z" ∈ wsX2_setCrossed := by decide +kernel
theorem in_X2_setCrossed_3 : ∀ w ∈ u_ws RX2 TX2 5, w ∈ wsX2_setCrossed := by decide +kernel
theorem pd_X2_3 : parseFieldDescriptor (TX2 3).2.2.1 = some (tyX2 3) := by decide +kernel
theorem lc_X2_receive_89 : Cond.constant RX2 89 (200000) ∈ wsX2_receive := by decide +kernel
theorem lf_X2_receive_90 : Cond.fieldLink RX2 90 "NetPoints$Picture" "receipts" "[[I" ∈ wsX2_receive := by decide +kernel
theorem in_X2_receive_1 : ∀ w ∈ u_ws RX0 TX0 15, w ∈ wsX2_receive := by decide +kernel
theorem lf_X2_receive_30 : Cond.fieldLink RX2 30 "NetPoints" "yearOfNow" "I" ∈ wsX2_receive := by decide +kernel
theorem in_X2_receive_3 : ∀ w ∈ u_ws RX2 TX2 5, w ∈ wsX2_receive := by decide +kernel
theorem lc_X2_spend_89 : Cond.constant RX2 89 (200000) ∈ wsX2_spend := by decide +kernel
theorem lf_X2_spend_94 : Cond.fieldLink RX2 94 "NetPoints$Picture" "costs" "[I" ∈ wsX2_spend := by decide +kernel
theorem in_X2_spend_1 : ∀ w ∈ u_ws RX0 TX0 15, w ∈ wsX2_spend := by decide +kernel
theorem lf_X2_spend_30 : Cond.fieldLink RX2 30 "NetPoints" "yearOfNow" "I" ∈ wsX2_spend := by decide +kernel
theorem in_X2_spend_3 : ∀ w ∈ u_ws RX2 TX2 5, w ∈ wsX2_spend := by decide +kernel
theorem lc_X2_audit_97 : Cond.constant RX2 97 (1000000) ∈ wsX2_audit := by decide +kernel
theorem hdV_X2_requireOpenToAudit : yX2_requireOpenToAudit.cls = RX2 ∧ yX2_requireOpenToAudit.cls ≠ "java/lang/invoke/MethodHandle" ∧ yX2_requireOpenToAudit.cls ≠ "java/lang/invoke/VarHandle" ∧ (parseMethodDescriptor yX2_requireOpenToAudit.desc).map (fun d => d.parameters.length) = some 1 := by decide +kernel
theorem lf_X2_audit_90 : Cond.fieldLink RX2 90 "NetPoints$Picture" "receipts" "[[I" ∈ wsX2_audit := by decide +kernel
theorem in_X2_audit_1 : ∀ w ∈ u_ws RX0 TX0 15, w ∈ wsX2_audit := by decide +kernel
theorem lf_X2_closeYear_30 : Cond.fieldLink RX2 30 "NetPoints" "yearOfNow" "I" ∈ wsX2_closeYear := by decide +kernel
theorem in_X2_closeYear_3 : ∀ w ∈ u_ws RX2 TX2 5, w ∈ wsX2_closeYear := by decide +kernel
theorem pd_X2_4 : parseFieldDescriptor (TX2 4).2.2.1 = some (tyX2 4) := by decide +kernel
theorem lcl_X2_closeYear_101 : Cond.classLink RX2 101 "java/lang/IllegalStateException" ∈ wsX2_closeYear := by decide +kernel
theorem lini_X2_closeYear_IllegalStateException : Cond.initialized "java/lang/IllegalStateException" ∈ wsX2_closeYear := by decide +kernel
theorem lat_X2_closeYear_105 : ∀ w ∈ (vx_atS RX2 105 "java/lang/IllegalStateException" ["java/lang/RuntimeException", "java/lang/Exception"]).filter goodWord, w ∈ wsX2_closeYear := by decide +kernel
theorem lf_X2_year_30 : Cond.fieldLink RX2 30 "NetPoints" "yearOfNow" "I" ∈ wsX2_year := by decide +kernel
theorem in_X2_year_3 : ∀ w ∈ u_ws RX2 TX2 5, w ∈ wsX2_year := by decide +kernel
theorem lf_X2_sharers_22 : Cond.fieldLink RX2 22 "NetPoints" "allSharers" "Ljava/util/ArrayList;" ∈ wsX2_sharers := by decide +kernel
theorem in_X2_sharers_3 : ∀ w ∈ u_ws RX2 TX2 5, w ∈ wsX2_sharers := by decide +kernel
