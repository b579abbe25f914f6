theorem lml_Jxa1e45_init_da8c8_1 : Cond.methodLink RJxa1e45 1 objectInit ∈ wsJxa1e45_init_da8c8 := by decide +kernel
theorem lin_Jxa1e45_init_da8c8_obj : Cond.instanceMethod objectInit ∈ wsJxa1e45_init_da8c8 := by decide +kernel
theorem lcd_Jxa1e45_init_da8c8_obj : Cond.code objectInit ⟨#[0xb1]⟩ 1 none ∈ wsJxa1e45_init_da8c8 := by decide +kernel
theorem hdS_Jxa1e45_init_da8c8 : yJxa1e45_init_da8c8.cls ≠ "java/lang/invoke/MethodHandle" ∧ yJxa1e45_init_da8c8.cls ≠ "java/lang/invoke/VarHandle" ∧ (parseMethodDescriptor yJxa1e45_init_da8c8.desc).map (fun d => d.parameters.length) = some 0 := by decide +kernel
theorem lini_Jxc12de_init_da8c8_Jxa1e45_init_da8c8 : Cond.initialized yJxa1e45_init_da8c8.cls ∈ wsJxc12de_init_da8c8 := by decide +kernel
theorem lin_Jxc12de_init_da8c8_Jxa1e45_init_da8c8 : Cond.instanceMethod yJxa1e45_init_da8c8 ∈ wsJxc12de_init_da8c8 := by decide +kernel
theorem lml_Jxc12de_init_da8c8_1 : Cond.methodLink RJxc12de 1 yJxa1e45_init_da8c8 ∈ wsJxc12de_init_da8c8 := by decide +kernel
theorem lf_Jxc12de_init_da8c8_7 : Cond.fieldLink RJxc12de 7 "java/util/AbstractList" "modCount" "I" ∈ wsJxc12de_init_da8c8 := by decide +kernel
theorem in_Jxc12de_init_da8c8_0 : ∀ w ∈ u_ws RJx4a65c TJx4a65c 3, w ∈ wsJxc12de_init_da8c8 := by decide +kernel
theorem pd_Jx4a65c_0 : parseFieldDescriptor (TJx4a65c 0).2.2.1 = some (tyJx4a65c 0) := by decide +kernel
theorem hdS_Jxc12de_init_da8c8 : yJxc12de_init_da8c8.cls ≠ "java/lang/invoke/MethodHandle" ∧ yJxc12de_init_da8c8.cls ≠ "java/lang/invoke/VarHandle" ∧ (parseMethodDescriptor yJxc12de_init_da8c8.desc).map (fun d => d.parameters.length) = some 0 := by decide +kernel
theorem lini_Jx4a65c_init_da8c8_Jxc12de_init_da8c8 : Cond.initialized yJxc12de_init_da8c8.cls ∈ wsJx4a65c_init_da8c8 := by decide +kernel
theorem lin_Jx4a65c_init_da8c8_Jxc12de_init_da8c8 : Cond.instanceMethod yJxc12de_init_da8c8 ∈ wsJx4a65c_init_da8c8 := by decide +kernel
theorem lml_Jx4a65c_init_da8c8_1 : Cond.methodLink RJx4a65c 1 yJxc12de_init_da8c8 ∈ wsJx4a65c_init_da8c8 := by decide +kernel
theorem lsf_Jx4a65c_init_da8c8_39 : Cond.fieldLink RJx4a65c 39 "java/util/ArrayList" "DEFAULTCAPACITY_EMPTY_ELEMENTDATA" "[Ljava/lang/Object;" ∈ wsJx4a65c_init_da8c8 := by decide +kernel
theorem lf_Jx4a65c_init_da8c8_9 : Cond.fieldLink RJx4a65c 9 "java/util/ArrayList" "elementData" "[Ljava/lang/Object;" ∈ wsJx4a65c_init_da8c8 := by decide +kernel
theorem in_Jx4a65c_init_da8c8_0 : ∀ w ∈ u_ws RJx4a65c TJx4a65c 3, w ∈ wsJx4a65c_init_da8c8 := by decide +kernel
theorem pd_Jx4a65c_1 : parseFieldDescriptor (TJx4a65c 1).2.2.1 = some (tyJx4a65c 1) := by decide +kernel
theorem lml_X1_init_3 : Cond.methodLink RX1 3 objectInit ∈ wsX1_init := by decide +kernel
theorem lin_X1_init_obj : Cond.instanceMethod objectInit ∈ wsX1_init := by decide +kernel
theorem lcd_X1_init_obj : Cond.code objectInit ⟨#[0xb1]⟩ 1 none ∈ wsX1_init := by decide +kernel
theorem lf_X1_init_9 : Cond.fieldLink RX1 9 "NetPoints$Sharer" "picture" "LNetPoints$Picture;" ∈ wsX1_init := by decide +kernel
theorem in_X1_init_2 : ∀ w ∈ u_ws RX1 TX1 7, w ∈ wsX1_init := by decide +kernel
theorem pd_X1_0 : parseFieldDescriptor (TX1 0).2.2.1 = some (tyX1 0) := by decide +kernel
theorem lf_X1_init_15 : Cond.fieldLink RX1 15 "NetPoints$Sharer" "turn" "I" ∈ wsX1_init := by decide +kernel
theorem pd_X1_1 : parseFieldDescriptor (TX1 1).2.2.1 = some (tyX1 1) := by decide +kernel
theorem lf_X1_init_19 : Cond.fieldLink RX1 19 "NetPoints$Sharer" "kind" "I" ∈ wsX1_init := by decide +kernel
theorem pd_X1_2 : parseFieldDescriptor (TX1 2).2.2.1 = some (tyX1 2) := by decide +kernel
theorem lf_X1_init_22 : Cond.fieldLink RX1 22 "NetPoints$Sharer" "limit" "I" ∈ wsX1_init := by decide +kernel
theorem pd_X1_3 : parseFieldDescriptor (TX1 3).2.2.1 = some (tyX1 3) := by decide +kernel
theorem lf_X1_init_25 : Cond.fieldLink RX1 25 "NetPoints$Sharer" "first" "I" ∈ wsX1_init := by decide +kernel
theorem pd_X1_4 : parseFieldDescriptor (TX1 4).2.2.1 = some (tyX1 4) := by decide +kernel
theorem lf_X1_init_28 : Cond.fieldLink RX1 28 "NetPoints$Sharer" "second" "I" ∈ wsX1_init := by decide +kernel
theorem pd_X1_5 : parseFieldDescriptor (TX1 5).2.2.1 = some (tyX1 5) := by decide +kernel
theorem lml_X0_init_3 : Cond.methodLink RX0 3 objectInit ∈ wsX0_init := by decide +kernel
theorem lin_X0_init_obj : Cond.instanceMethod objectInit ∈ wsX0_init := by decide +kernel
theorem lcd_X0_init_obj : Cond.code objectInit ⟨#[0xb1]⟩ 1 none ∈ wsX0_init := by decide +kernel
theorem lcl_X0_init_9 : Cond.classLink RX0 9 "[[I" ∈ wsX0_init := by decide +kernel
theorem larr_X0_init_int : Cond.arrayClass .int ∈ wsX0_init := by decide +kernel
theorem lf_X0_init_11 : Cond.fieldLink RX0 11 "NetPoints$Picture" "receipts" "[[I" ∈ wsX0_init := by decide +kernel
theorem in_X0_init_1 : ∀ w ∈ u_ws RX0 TX0 15, w ∈ wsX0_init := by decide +kernel
theorem pd_X0_0 : parseFieldDescriptor (TX0 0).2.2.1 = some (tyX0 0) := by decide +kernel
theorem lf_X0_init_16 : Cond.fieldLink RX0 16 "NetPoints$Picture" "costs" "[I" ∈ wsX0_init := by decide +kernel
theorem pd_X0_1 : parseFieldDescriptor (TX0 1).2.2.1 = some (tyX0 1) := by decide +kernel
theorem lf_X0_init_20 : Cond.fieldLink RX0 20 "NetPoints$Picture" "feeRates" "[I" ∈ wsX0_init := by decide +kernel
theorem pd_X0_2 : parseFieldDescriptor (TX0 2).2.2.1 = some (tyX0 2) := by decide +kernel
theorem in_X0_init_0 : ∀ w ∈ u_ws RJx4a65c TJx4a65c 3, w ∈ wsX0_init := by decide +kernel
theorem lcl_X0_init_23 : Cond.classLink RX0 23 RJx4a65c ∈ wsX0_init := by decide +kernel
theorem lins_X0_init_0 : Cond.instantiable RJx4a65c 3 ∈ wsX0_init := by decide +kernel
theorem lini_X0_init_0 : Cond.initialized RJx4a65c ∈ wsX0_init := by decide +kernel
theorem hdS_Jx4a65c_init_da8c8 : yJx4a65c_init_da8c8.cls ≠ "java/lang/invoke/MethodHandle" ∧ yJx4a65c_init_da8c8.cls ≠ "java/lang/invoke/VarHandle" ∧ (parseMethodDescriptor yJx4a65c_init_da8c8.desc).map (fun d => d.parameters.length) = some 0 := by decide +kernel
theorem lini_X0_init_Jx4a65c_init_da8c8 : Cond.initialized yJx4a65c_init_da8c8.cls ∈ wsX0_init := by decide +kernel
theorem lin_X0_init_Jx4a65c_init_da8c8 : Cond.instanceMethod yJx4a65c_init_da8c8 ∈ wsX0_init := by decide +kernel
theorem lml_X0_init_25 : Cond.methodLink RX0 25 yJx4a65c_init_da8c8 ∈ wsX0_init := by decide +kernel
theorem lf_X0_init_26 : Cond.fieldLink RX0 26 "NetPoints$Picture" "sharers" "Ljava/util/ArrayList;" ∈ wsX0_init := by decide +kernel
theorem pd_X0_3 : parseFieldDescriptor (TX0 3).2.2.1 = some (tyX0 3) := by decide +kernel
theorem larr_X0_init_long : Cond.arrayClass .long ∈ wsX0_init := by decide +kernel
theorem lf_X0_init_30 : Cond.fieldLink RX0 30 "NetPoints$Picture" "balances" "[J" ∈ wsX0_init := by decide +kernel
theorem pd_X0_7 : parseFieldDescriptor (TX0 7).2.2.1 = some (tyX0 7) := by decide +kernel
theorem lf_X0_init_34 : Cond.fieldLink RX0 34 "NetPoints$Picture" "profits" "[J" ∈ wsX0_init := by decide +kernel
theorem pd_X0_8 : parseFieldDescriptor (TX0 8).2.2.1 = some (tyX0 8) := by decide +kernel
theorem lml_X2_init_1 : Cond.methodLink RX2 1 objectInit ∈ wsX2_init := by decide +kernel
theorem lin_X2_init_obj : Cond.instanceMethod objectInit ∈ wsX2_init := by decide +kernel
theorem lcd_X2_init_obj : Cond.code objectInit ⟨#[0xb1]⟩ 1 none ∈ wsX2_init := by decide +kernel
theorem in_X2_init_1 : ∀ w ∈ u_ws RX0 TX0 15, w ∈ wsX2_init := by decide +kernel
theorem lcl_X2_init_7 : Cond.classLink RX2 7 RX0 ∈ wsX2_init := by decide +kernel
theorem lins_X2_init_1 : Cond.instantiable RX0 15 ∈ wsX2_init := by decide +kernel
theorem lini_X2_init_1 : Cond.initialized RX0 ∈ wsX2_init := by decide +kernel
theorem hdS_X0_init : yX0_init.cls ≠ "java/lang/invoke/MethodHandle" ∧ yX0_init.cls ≠ "java/lang/invoke/VarHandle" ∧ (parseMethodDescriptor yX0_init.desc).map (fun d => d.parameters.length) = some 0 := by decide +kernel
theorem lini_X2_init_X0_init : Cond.initialized yX0_init.cls ∈ wsX2_init := by decide +kernel
theorem lin_X2_init_X0_init : Cond.instanceMethod yX0_init ∈ wsX2_init := by decide +kernel
theorem lf_X2_init_10 : Cond.fieldLink RX2 10 "NetPoints" "picture0" "LNetPoints$Picture;" ∈ wsX2_init := by decide +kernel
theorem in_X2_init_3 : ∀ w ∈ u_ws RX2 TX2 5, w ∈ wsX2_init := by decide +kernel
theorem pd_X2_0 : parseFieldDescriptor (TX2 0).2.2.1 = some (tyX2 0) := by decide +kernel
theorem lf_X2_init_16 : Cond.fieldLink RX2 16 "NetPoints" "picture1" "LNetPoints$Picture;" ∈ wsX2_init := by decide +kernel
theorem pd_X2_1 : parseFieldDescriptor (TX2 1).2.2.1 = some (tyX2 1) := by decide +kernel
theorem in_X2_init_0 : ∀ w ∈ u_ws RJx4a65c TJx4a65c 3, w ∈ wsX2_init := by decide +kernel
theorem lcl_X2_init_19 : Cond.classLink RX2 19 RJx4a65c ∈ wsX2_init := by decide +kernel
theorem lins_X2_init_0 : Cond.instantiable RJx4a65c 3 ∈ wsX2_init := by decide +kernel
theorem lini_X2_init_0 : Cond.initialized RJx4a65c ∈ wsX2_init := by decide +kernel
theorem lini_X2_init_Jx4a65c_init_da8c8 : Cond.initialized yJx4a65c_init_da8c8.cls ∈ wsX2_init := by decide +kernel
theorem lin_X2_init_Jx4a65c_init_da8c8 : Cond.instanceMethod yJx4a65c_init_da8c8 ∈ wsX2_init := by decide +kernel
theorem lml_X2_init_21 : Cond.methodLink RX2 21 yJx4a65c_init_da8c8 ∈ wsX2_init := by decide +kernel
theorem lf_X2_init_22 : Cond.fieldLink RX2 22 "NetPoints" "allSharers" "Ljava/util/ArrayList;" ∈ wsX2_init := by decide +kernel
theorem pd_X2_2 : parseFieldDescriptor (TX2 2).2.2.1 = some (tyX2 2) := by decide +kernel
theorem lf_X2_init_26 : Cond.fieldLink RX2 26 "NetPoints" "crossed" "Z" ∈ wsX2_init := by decide +kernel
theorem lf_X2_init_30 : Cond.fieldLink RX2 30 "NetPoints" "yearOfNow" "I" ∈ wsX2_init := by decide +kernel
