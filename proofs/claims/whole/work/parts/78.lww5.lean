set_option maxRecDepth 20000 in
theorem lw_w16 : ∀ w ∈ wsL_law0_r16, w ∈ lw_tbl := by decide +kernel
set_option maxRecDepth 20000 in
theorem lw_w17 : ∀ w ∈ wsL_law0_r17, w ∈ lw_tbl := by decide +kernel
set_option maxRecDepth 20000 in
theorem lw_w18 : ∀ w ∈ wsL_law0_r18, w ∈ lw_tbl := by decide +kernel
