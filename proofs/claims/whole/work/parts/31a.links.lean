theorem lcl_L_law_8 : Cond.classLink RL 8 RX2 ∈ wsL_law := by decide +kernel
theorem lins_L_law_3 : Cond.instantiable RX2 5 ∈ wsL_law := by decide +kernel
theorem lini_L_law_3 : Cond.initialized RX2 ∈ wsL_law := by decide +kernel
theorem hdS_X2_init : yX2_init.cls ≠ "java/lang/invoke/MethodHandle" ∧ yX2_init.cls ≠ "java/lang/invoke/VarHandle" ∧ (parseMethodDescriptor yX2_init.desc).map (fun d => d.parameters.length) = some 0 := by decide +kernel
theorem lini_L_law_X2_init : Cond.initialized yX2_init.cls ∈ wsL_law := by decide +kernel
theorem lin_L_law_X2_init : Cond.instanceMethod yX2_init ∈ wsL_law := by decide +kernel
theorem lml_L_law_73 : Cond.methodLink RL 73 yX2_init ∈ wsL_law := by decide +kernel
theorem lcl_L_law_74 : Cond.classLink RL 74 RX3 ∈ wsL_law := by decide +kernel
theorem lins_L_law_4 : Cond.instantiable RX3 19 ∈ wsL_law := by decide +kernel
theorem lini_L_law_4 : Cond.initialized RX3 ∈ wsL_law := by decide +kernel
theorem hdS_X3_init : yX3_init.cls ≠ "java/lang/invoke/MethodHandle" ∧ yX3_init.cls ≠ "java/lang/invoke/VarHandle" ∧ (parseMethodDescriptor yX3_init.desc).map (fun d => d.parameters.length) = some 0 := by decide +kernel
theorem lini_L_law_X3_init : Cond.initialized yX3_init.cls ∈ wsL_law := by decide +kernel
theorem lin_L_law_X3_init : Cond.instanceMethod yX3_init ∈ wsL_law := by decide +kernel
theorem lml_L_law_76 : Cond.methodLink RL 76 yX3_init ∈ wsL_law := by decide +kernel
theorem larr_L_law_long : Cond.arrayClass .long ∈ wsL_law := by decide +kernel
