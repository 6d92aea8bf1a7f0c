theorem wl_in0 : ∀ w ∈ wsL_law0, w ∈ lw_tbl := by
  intro w h
  unfold wsL_law0 at h
  repeat' (rcases List.mem_append.mp h with h | h)
  all_goals first | exact absurd h List.not_mem_nil | exact wl_1 w h | exact wl_2 w h | exact wl_3 w h | exact wl_4 w h | exact wl_5 w h | exact wl_6 w h | exact wl_7 w h | exact wl_8 w h | exact wl_9 w h | exact wl_10 w h | exact wl_11 w h | exact wl_12 w h | exact wl_13 w h | exact wl_14 w h | exact wl_15 w h | exact wl_16 w h | exact wl_17 w h | exact wl_18 w h | exact wl_19 w h | exact wl_20 w h | exact wl_21 w h | exact wl_22 w h | exact wl_23 w h | exact wl_24 w h | exact wl_25 w h | exact wl_26 w h | exact wl_27 w h | exact wl_28 w h | exact wl_29 w h | exact wl_30 w h | exact wl_31 w h | exact wl_32 w h | exact wl_33 w h | exact wl_wsX00 w h | exact wl_wsX10 w h | exact wl_wsX20 w h | exact wl_wsX30 w h | exact wl_wsX40 w h | exact wl_wsX50 w h
theorem wl_in : ∀ w ∈ wsL_law, w ∈ lw_tbl := by
  intro w h
  unfold wsL_law at h
  rcases List.mem_append.mp h with h | h
  · rcases List.mem_append.mp h with h | h
    · rcases List.mem_append.mp h with h | h
      · exact wl_in0 w h
      · exact wl_x48 w h
    · exact wl_x55 w h
  · exact wl_x95 w h
