theorem lcl_L_law_9 : Cond.classLink RL 9 RX2 ∈ wsL_law := by decide +kernel
theorem lins_L_law_3 : Cond.instantiable RX2 5 ∈ wsL_law := by decide +kernel
theorem lini_L_law_3 : Cond.initialized RX2 ∈ wsL_law := by decide +kernel
theorem hdS_X2_init : yX2_init.cls ≠ "java/lang/invoke/MethodHandle" ∧ yX2_init.cls ≠ "java/lang/invoke/VarHandle" ∧ (parseMethodDescriptor yX2_init.desc).map (fun d => d.parameters.length) = some 0 := by decide +kernel
theorem lini_L_law_X2_init : Cond.initialized yX2_init.cls ∈ wsL_law := by decide +kernel
theorem lin_L_law_X2_init : Cond.instanceMethod yX2_init ∈ wsL_law := by decide +kernel
theorem lml_L_law_50 : Cond.methodLink RL 50 yX2_init ∈ wsL_law := by decide +kernel
theorem larr_L_law_int : Cond.arrayClass .int ∈ wsL_law := by decide +kernel
