/-! the law's words are the tables' -/
set_option maxRecDepth 100000 in
theorem wsL_i1 : ∀ w ∈ wsL_law_r1, w ∈ lw_tbl := by decide +kernel
set_option maxRecDepth 100000 in
theorem wsL_i2 : ∀ w ∈ wsL_law_r2, w ∈ lw_tbl := by decide +kernel
set_option maxRecDepth 100000 in
theorem wsL_i3 : ∀ w ∈ wsL_law_r3, w ∈ lw_tbl := by decide +kernel
set_option maxRecDepth 100000 in
theorem wsL_i4 : ∀ w ∈ wsL_law_r4, w ∈ lw_tbl := by decide +kernel
set_option maxRecDepth 100000 in
theorem wsL_i5 : ∀ w ∈ wsL_law_r5, w ∈ lw_tbl := by decide +kernel
set_option maxRecDepth 100000 in
theorem wsL_i6 : ∀ w ∈ wsL_law_r6, w ∈ lw_tbl := by decide +kernel
set_option maxRecDepth 100000 in
theorem wsL_i7 : ∀ w ∈ wsL_law_r7, w ∈ lw_tbl := by decide +kernel
set_option maxRecDepth 100000 in
theorem wsL_i8 : ∀ w ∈ wsL_law_r8, w ∈ lw_tbl := by decide +kernel
set_option maxRecDepth 100000 in
theorem wsL_i9 : ∀ w ∈ wsL_law_r9, w ∈ lw_tbl := by decide +kernel
set_option maxRecDepth 100000 in
theorem wsL_i10 : ∀ w ∈ wsL_law_r10, w ∈ lw_tbl := by decide +kernel
