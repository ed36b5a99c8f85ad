theorem lwr_1 : ∀ w ∈ wsL_law_r1, w ∈ lw_tbl := by decide +kernel
theorem lwr_2 : ∀ w ∈ wsL_law_r2, w ∈ lw_tbl := by decide +kernel
theorem lwr_3 : ∀ w ∈ wsL_law_r3, w ∈ lw_tbl := by decide +kernel
theorem lwr_4 : ∀ w ∈ wsL_law_r4, w ∈ lw_tbl := by decide +kernel
theorem lwr_5 : ∀ w ∈ wsL_law_r5, w ∈ lw_tbl := by decide +kernel
theorem lwr_6 : ∀ w ∈ wsL_law_r6, w ∈ lw_tbl := by decide +kernel
theorem lwr_7 : ∀ w ∈ wsL_law_r7, w ∈ lw_tbl := by decide +kernel
theorem lwr_8 : ∀ w ∈ wsL_law_r8, w ∈ lw_tbl := by decide +kernel
theorem lwr_9 : ∀ w ∈ wsL_law_r9, w ∈ lw_tbl := by decide +kernel
theorem lwr_10 : ∀ w ∈ wsL_law_r10, w ∈ lw_tbl := by decide +kernel
theorem lwr_11 : ∀ w ∈ wsL_law_r11, w ∈ lw_tbl := by decide +kernel
theorem lwr_12 : ∀ w ∈ wsL_law_r12, w ∈ lw_tbl := by decide +kernel
theorem lwr_13 : ∀ w ∈ wsL_law_r13, w ∈ lw_tbl := by decide +kernel
theorem lwr_14 : ∀ w ∈ wsL_law_r14, w ∈ lw_tbl := by decide +kernel
theorem lwr_15 : ∀ w ∈ wsL_law_r15, w ∈ lw_tbl := by decide +kernel
theorem lwx_0 : ∀ w ∈ u_ws RX0 TX0 8, w ∈ lw_tbl := by decide +kernel
theorem lwx_1 : ∀ w ∈ u_ws RX1 TX1 2, w ∈ lw_tbl := by decide +kernel
theorem lwx_2 : ∀ w ∈ u_ws RX2 TX2 9, w ∈ lw_tbl := by decide +kernel
theorem lwx_3 : ∀ w ∈ u_ws RX3 TX3 6, w ∈ lw_tbl := by decide +kernel
theorem lwx_4 : ∀ w ∈ u_ws RX4 TX4 21, w ∈ lw_tbl := by decide +kernel
theorem wsL_law_in : ∀ w ∈ wsL_law, w ∈ lw_tbl := by
  intro w h
  unfold wsL_law at h
  simp only [List.mem_append, List.not_mem_nil, or_false] at h
  rcases h with ((((h | h) | h) | h) | h) | h
  · rcases h with h | h | h | h | h | h | h | h | h | h | h | h | h | h | h
    · exact lwr_1 w h
    · exact lwr_2 w h
    · exact lwr_3 w h
    · exact lwr_4 w h
    · exact lwr_5 w h
    · exact lwr_6 w h
    · exact lwr_7 w h
    · exact lwr_8 w h
    · exact lwr_9 w h
    · exact lwr_10 w h
    · exact lwr_11 w h
    · exact lwr_12 w h
    · exact lwr_13 w h
    · exact lwr_14 w h
    · exact lwr_15 w h
  · exact lwx_3 w h
  · exact lwx_4 w h
  · exact lwx_1 w h
  · exact lwx_0 w h
  · exact lwx_2 w h
theorem lwn_f : ∀ q ∈ hs_nf, Cond.fieldLinkNest q.1 q.2.1 q.2.2.1 q.2.2.2.1 q.2.2.2.2.1 q.2.2.2.2.2 ∈ lw_tbl := by decide +kernel
theorem lwn_m : ∀ q ∈ hs_nm, Cond.methodLinkNest q.1 q.2.1 q.2.2.1 q.2.2.2 ∈ lw_tbl := by decide +kernel
theorem lwo_N : Cond.arrayOver (.object "HlcStore$Node") ∈ lw_tbl := by decide +kernel
theorem lwo_K : Cond.arrayOver (.object "HlcStore$Key") ∈ lw_tbl := by decide +kernel
theorem lwo_T : Cond.arrayOver (.object "HlcStore$Transaction") ∈ lw_tbl := by decide +kernel
theorem lwa_int : Cond.arrayClass .int ∈ lw_tbl := by decide +kernel
theorem lwa_long : Cond.arrayClass .long ∈ lw_tbl := by decide +kernel
theorem lwa_boolean : Cond.arrayClass .boolean ∈ lw_tbl := by decide +kernel
theorem lwi_0 : Cond.instantiable RX0 8 ∈ lw_tbl := by decide +kernel
theorem lwi_1 : Cond.instantiable RX1 2 ∈ lw_tbl := by decide +kernel
theorem lwi_2 : Cond.instantiable RX2 9 ∈ lw_tbl := by decide +kernel
theorem lwi_3 : Cond.instantiable RX3 6 ∈ lw_tbl := by decide +kernel
theorem lwi_4 : Cond.instantiable RX4 21 ∈ lw_tbl := by decide +kernel
