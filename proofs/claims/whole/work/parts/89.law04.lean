theorem inX0 : ∀ w ∈ wsX00, w ∈ lw_tbl := by decide +kernel
theorem inX1 : ∀ w ∈ wsX10, w ∈ lw_tbl := by decide +kernel
theorem inX2 : ∀ w ∈ wsX20, w ∈ lw_tbl := by decide +kernel
theorem inX3 : ∀ w ∈ wsX30, w ∈ lw_tbl := by decide +kernel
theorem inX4 : ∀ w ∈ wsX40, w ∈ lw_tbl := by decide +kernel
theorem inX5 : ∀ w ∈ wsX50, w ∈ lw_tbl := by decide +kernel
theorem wsL_law_in : ∀ w ∈ wsL_law, w ∈ lw_tbl := by
  intro w h
  unfold wsL_law at h
  rcases List.mem_append.mp h with h | h
  · rcases List.mem_append.mp h with h | h
    · rcases List.mem_append.mp h with h | h
      · rcases List.mem_append.mp h with h | h
        · rcases List.mem_append.mp h with h | h
          · rcases List.mem_append.mp h with h | h
            · rcases List.mem_append.mp h with h | h
              · rcases List.mem_append.mp h with h | h
                · exact wsL_in_1 w h
                rcases List.mem_append.mp h with h | h
                · exact wsL_in_2 w h
                rcases List.mem_append.mp h with h | h
                · exact wsL_in_3 w h
                rcases List.mem_append.mp h with h | h
                · exact wsL_in_4 w h
                rcases List.mem_append.mp h with h | h
                · exact wsL_in_5 w h
                rcases List.mem_append.mp h with h | h
                · exact wsL_in_6 w h
                rcases List.mem_append.mp h with h | h
                · exact wsL_in_7 w h
                rcases List.mem_append.mp h with h | h
                · exact wsL_in_8 w h
                rcases List.mem_append.mp h with h | h
                · exact wsL_in_9 w h
                rcases List.mem_append.mp h with h | h
                · exact wsL_in_10 w h
                rcases List.mem_append.mp h with h | h
                · exact wsL_in_11 w h
                rcases List.mem_append.mp h with h | h
                · exact wsL_in_12 w h
                rcases List.mem_append.mp h with h | h
                · exact wsL_in_13 w h
                rcases List.mem_append.mp h with h | h
                · exact wsL_in_14 w h
                rcases List.mem_append.mp h with h | h
                · exact wsL_in_15 w h
                rcases List.mem_append.mp h with h | h
                · exact wsL_in_16 w h
                rcases List.mem_append.mp h with h | h
                · exact wsL_in_17 w h
                rcases List.mem_append.mp h with h | h
                · exact wsL_in_18 w h
                rcases List.mem_append.mp h with h | h
                · exact wsL_in_19 w h
                rcases List.mem_append.mp h with h | h
                · exact wsL_in_20 w h
                rcases List.mem_append.mp h with h | h
                · exact wsL_in_21 w h
                rcases List.mem_append.mp h with h | h
                · exact wsL_in_22 w h
                rcases List.mem_append.mp h with h | h
                · exact wsL_in_23 w h
                rcases List.mem_append.mp h with h | h
                · exact wsL_in_24 w h
                rcases List.mem_append.mp h with h | h
                · exact wsL_in_25 w h
                rcases List.mem_append.mp h with h | h
                · exact wsL_in_26 w h
                rcases List.mem_append.mp h with h | h
                · exact wsL_in_27 w h
                rcases List.mem_append.mp h with h | h
                · exact wsL_in_28 w h
                rcases List.mem_append.mp h with h | h
                · exact wsL_in_29 w h
                rcases List.mem_append.mp h with h | h
                · exact wsL_in_30 w h
                rcases List.mem_append.mp h with h | h
                · exact wsL_in_31 w h
                rcases List.mem_append.mp h with h | h
                · exact wsL_in_32 w h
                rcases List.mem_append.mp h with h | h
                · exact wsL_in_33 w h
                rcases List.mem_append.mp h with h | h
                · exact wsL_in_34 w h
                rcases List.mem_append.mp h with h | h
                · exact wsL_in_35 w h
                exact wsL_in_36 w h
              · exact inX4 w h
            · exact inX5 w h
          · exact inX0 w h
        · exact inX2 w h
      · exact inX1 w h
    · exact inX3 w h
  · cases h
