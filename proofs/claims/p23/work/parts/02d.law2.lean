theorem wsL_law_q9 : ∀ w ∈ wsL_law0_r9, w ∈ lw_tbl := by decide +kernel
theorem wsL_law_q10 : ∀ w ∈ wsL_law0_r10, w ∈ lw_tbl := by decide +kernel
theorem wsL_law_q11 : ∀ w ∈ wsL_law0_r11, w ∈ lw_tbl := by decide +kernel
theorem wsL_law_q12 : ∀ w ∈ wsL_law0_r12, w ∈ lw_tbl := by decide +kernel
theorem wsL_law_q13 : ∀ w ∈ wsL_law0_r13, w ∈ lw_tbl := by decide +kernel
theorem wsL_law_q14 : ∀ w ∈ wsL_law0_r14, w ∈ lw_tbl := by decide +kernel
theorem wsL_law_q15 : ∀ w ∈ wsL_law0_r15, w ∈ lw_tbl := by decide +kernel
theorem wsL_law_q16 : ∀ w ∈ wsL_law0_r16, w ∈ lw_tbl := by decide +kernel
theorem wsL_law_twsX20 : ∀ w ∈ wsX20, w ∈ lw_tbl := by decide +kernel
theorem wsL_law_twsX00 : ∀ w ∈ wsX00, w ∈ lw_tbl := by decide +kernel
theorem wsL_law_twsJx4a65c0 : ∀ w ∈ wsJx4a65c0, w ∈ lw_tbl := by decide +kernel
theorem wsL_law_twsX10 : ∀ w ∈ wsX10, w ∈ lw_tbl := by decide +kernel
theorem wsL_law_in0 : ∀ w ∈ wsL_law0, w ∈ lw_tbl := List.forall_mem_append.mpr ⟨List.forall_mem_append.mpr ⟨List.forall_mem_append.mpr ⟨List.forall_mem_append.mpr ⟨List.forall_mem_append.mpr ⟨List.forall_mem_append.mpr ⟨wsL_law_q1, List.forall_mem_append.mpr ⟨wsL_law_q2, List.forall_mem_append.mpr ⟨wsL_law_q3, List.forall_mem_append.mpr ⟨wsL_law_q4, List.forall_mem_append.mpr ⟨wsL_law_q5, List.forall_mem_append.mpr ⟨wsL_law_q6, List.forall_mem_append.mpr ⟨wsL_law_q7, List.forall_mem_append.mpr ⟨wsL_law_q8, List.forall_mem_append.mpr ⟨wsL_law_q9, List.forall_mem_append.mpr ⟨wsL_law_q10, List.forall_mem_append.mpr ⟨wsL_law_q11, List.forall_mem_append.mpr ⟨wsL_law_q12, List.forall_mem_append.mpr ⟨wsL_law_q13, List.forall_mem_append.mpr ⟨wsL_law_q14, List.forall_mem_append.mpr ⟨wsL_law_q15, wsL_law_q16⟩⟩⟩⟩⟩⟩⟩⟩⟩⟩⟩⟩⟩⟩⟩, wsL_law_twsX20⟩, wsL_law_twsX00⟩, wsL_law_twsJx4a65c0⟩, wsL_law_twsX10⟩, fun _ h => absurd h List.not_mem_nil⟩
