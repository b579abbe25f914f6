theorem lf_Jx4a65c_grow_92f84_9 : Cond.fieldLink RJx4a65c 9 "java/util/ArrayList" "elementData" "[Ljava/lang/Object;" ∈ wsJx4a65c_grow_92f84 := by decide +kernel
theorem in_Jx4a65c_grow_92f84_0 : ∀ w ∈ u_ws RJx4a65c TJx4a65c 3, w ∈ wsJx4a65c_grow_92f84 := by decide +kernel
theorem lsf_Jx4a65c_grow_92f84_39 : Cond.fieldLink RJx4a65c 39 "java/util/ArrayList" "DEFAULTCAPACITY_EMPTY_ELEMENTDATA" "[Ljava/lang/Object;" ∈ wsJx4a65c_grow_92f84 := by decide +kernel
theorem lml_Jx4a65c_grow_92f84_79 : Cond.methodLink RJx4a65c 79 Lib.Math.max.name ∈ wsJx4a65c_grow_92f84 := by decide +kernel
theorem lst_Jx4a65c_grow_92f84_79 : Cond.static Lib.Math.max.name ∈ wsJx4a65c_grow_92f84 := by decide +kernel
theorem lini_Jx4a65c_grow_92f84_Math : Cond.initialized "java/lang/Math" ∈ wsJx4a65c_grow_92f84 := by decide +kernel
theorem lcd_Jx4a65c_grow_92f84_79 : Cond.code Lib.Math.max.name Lib.Math.max.code 2 (some .int) ∈ wsJx4a65c_grow_92f84 := by decide +kernel
theorem lcl_Jx4a65c_grow_92f84_7 : Cond.classLink RJx4a65c 7 "java/lang/Object" ∈ wsJx4a65c_grow_92f84 := by decide +kernel
theorem lf_Jx4a65c_grow_d5877_48 : Cond.fieldLink RJx4a65c 48 "java/util/ArrayList" "size" "I" ∈ wsJx4a65c_grow_d5877 := by decide +kernel
theorem in_Jx4a65c_grow_d5877_0 : ∀ w ∈ u_ws RJx4a65c TJx4a65c 3, w ∈ wsJx4a65c_grow_d5877 := by decide +kernel
theorem hdV_Jx4a65c_grow_92f84 : yJx4a65c_grow_92f84.cls = RJx4a65c ∧ yJx4a65c_grow_92f84.cls ≠ "java/lang/invoke/MethodHandle" ∧ yJx4a65c_grow_92f84.cls ≠ "java/lang/invoke/VarHandle" ∧ (parseMethodDescriptor yJx4a65c_grow_92f84.desc).map (fun d => d.parameters.length) = some 1 := by decide +kernel
theorem hdV_Jx4a65c_grow_d5877 : yJx4a65c_grow_d5877.cls = RJx4a65c ∧ yJx4a65c_grow_d5877.cls ≠ "java/lang/invoke/MethodHandle" ∧ yJx4a65c_grow_d5877.cls ≠ "java/lang/invoke/VarHandle" ∧ (parseMethodDescriptor yJx4a65c_grow_d5877.desc).map (fun d => d.parameters.length) = some 0 := by decide +kernel
theorem lf_Jx4a65c_add_72be8_48 : Cond.fieldLink RJx4a65c 48 "java/util/ArrayList" "size" "I" ∈ wsJx4a65c_add_72be8 := by decide +kernel
theorem in_Jx4a65c_add_72be8_0 : ∀ w ∈ u_ws RJx4a65c TJx4a65c 3, w ∈ wsJx4a65c_add_72be8 := by decide +kernel
theorem pd_Jx4a65c_2 : parseFieldDescriptor (TJx4a65c 2).2.2.1 = some (tyJx4a65c 2) := by decide +kernel
theorem lf_Jx4a65c_add_9ea2d_63 : Cond.fieldLink RJx4a65c 63 "java/util/ArrayList" "modCount" "I" ∈ wsJx4a65c_add_9ea2d := by decide +kernel
theorem in_Jx4a65c_add_9ea2d_0 : ∀ w ∈ u_ws RJx4a65c TJx4a65c 3, w ∈ wsJx4a65c_add_9ea2d := by decide +kernel
theorem ls_Jx4a65c_add_9ea2d_63 : Cond.sameField "java/util/ArrayList" "java/util/AbstractList" "modCount" "I" ∈ wsJx4a65c_add_9ea2d := by decide +kernel
theorem lf_Jx4a65c_add_9ea2d_9 : Cond.fieldLink RJx4a65c 9 "java/util/ArrayList" "elementData" "[Ljava/lang/Object;" ∈ wsJx4a65c_add_9ea2d := by decide +kernel
theorem lf_Jx4a65c_add_9ea2d_48 : Cond.fieldLink RJx4a65c 48 "java/util/ArrayList" "size" "I" ∈ wsJx4a65c_add_9ea2d := by decide +kernel
theorem hdV_Jx4a65c_add_72be8 : yJx4a65c_add_72be8.cls = RJx4a65c ∧ yJx4a65c_add_72be8.cls ≠ "java/lang/invoke/MethodHandle" ∧ yJx4a65c_add_72be8.cls ≠ "java/lang/invoke/VarHandle" ∧ (parseMethodDescriptor yJx4a65c_add_72be8.desc).map (fun d => d.parameters.length) = some 3 := by decide +kernel
theorem lf_X2_requireRoom_22 : Cond.fieldLink RX2 22 "NetPoints" "allSharers" "Ljava/util/ArrayList;" ∈ wsX2_requireRoom := by decide +kernel
theorem in_X2_requireRoom_3 : ∀ w ∈ u_ws RX2 TX2 5, w ∈ wsX2_requireRoom := by decide +kernel
theorem hdV_X0_netRatesGiven : yX0_netRatesGiven.cls = RX0 ∧ yX0_netRatesGiven.cls ≠ "java/lang/invoke/MethodHandle" ∧ yX0_netRatesGiven.cls ≠ "java/lang/invoke/VarHandle" ∧ (parseMethodDescriptor yX0_netRatesGiven.desc).map (fun d => d.parameters.length) = some 0 := by decide +kernel
theorem lc_X2_add_62 : Cond.constant RX2 62 (10000000) ∈ wsX2_add := by decide +kernel
theorem lml_X2_add_63 : Cond.methodLink RX2 63 Lib.Math.max.name ∈ wsX2_add := by decide +kernel
theorem lst_X2_add_63 : Cond.static Lib.Math.max.name ∈ wsX2_add := by decide +kernel
theorem lini_X2_add_Math : Cond.initialized "java/lang/Math" ∈ wsX2_add := by decide +kernel
theorem lcd_X2_add_63 : Cond.code Lib.Math.max.name Lib.Math.max.code 2 (some .int) ∈ wsX2_add := by decide +kernel
theorem hdV_X2_requireRoom : yX2_requireRoom.cls = RX2 ∧ yX2_requireRoom.cls ≠ "java/lang/invoke/MethodHandle" ∧ yX2_requireRoom.cls ≠ "java/lang/invoke/VarHandle" ∧ (parseMethodDescriptor yX2_requireRoom.desc).map (fun d => d.parameters.length) = some 3 := by decide +kernel
theorem in_X2_add_2 : ∀ w ∈ u_ws RX1 TX1 7, w ∈ wsX2_add := by decide +kernel
theorem lcl_X2_add_73 : Cond.classLink RX2 73 RX1 ∈ wsX2_add := by decide +kernel
theorem lins_X2_add_2 : Cond.instantiable RX1 7 ∈ wsX2_add := by decide +kernel
theorem lini_X2_add_2 : Cond.initialized RX1 ∈ wsX2_add := by decide +kernel
theorem lf_X2_add_75 : Cond.fieldLink RX2 75 "NetPoints$Picture" "sharers" "Ljava/util/ArrayList;" ∈ wsX2_add := by decide +kernel
theorem in_X2_add_1 : ∀ w ∈ u_ws RX0 TX0 15, w ∈ wsX2_add := by decide +kernel
theorem hdS_X1_init : yX1_init.cls ≠ "java/lang/invoke/MethodHandle" ∧ yX1_init.cls ≠ "java/lang/invoke/VarHandle" ∧ (parseMethodDescriptor yX1_init.desc).map (fun d => d.parameters.length) = some 6 := by decide +kernel
theorem lini_X2_add_X1_init : Cond.initialized yX1_init.cls ∈ wsX2_add := by decide +kernel
theorem lin_X2_add_X1_init : Cond.instanceMethod yX1_init ∈ wsX2_add := by decide +kernel
theorem lml_X2_add_82 : Cond.methodLink RX2 82 yX1_init ∈ wsX2_add := by decide +kernel
theorem hdV_Jx4a65c_add_9ea2d : yJx4a65c_add_9ea2d.cls = RJx4a65c ∧ yJx4a65c_add_9ea2d.cls ≠ "java/lang/invoke/MethodHandle" ∧ yJx4a65c_add_9ea2d.cls ≠ "java/lang/invoke/VarHandle" ∧ (parseMethodDescriptor yJx4a65c_add_9ea2d.desc).map (fun d => d.parameters.length) = some 1 := by decide +kernel
theorem lf_X2_add_22 : Cond.fieldLink RX2 22 "NetPoints" "allSharers" "Ljava/util/ArrayList;" ∈ wsX2_add := by decide +kernel
theorem in_X2_add_3 : ∀ w ∈ u_ws RX2 TX2 5, w ∈ wsX2_add := by decide +kernel
