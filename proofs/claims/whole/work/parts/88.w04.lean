/-! the law's words are the tables' -/
set_option maxRecDepth 100000 in
theorem wsL_i41 : ∀ w ∈ wsL_law_r41, w ∈ lw_tbl := by decide +kernel
set_option maxRecDepth 100000 in
theorem wsL_i42 : ∀ w ∈ wsL_law_r42, w ∈ lw_tbl := by decide +kernel
set_option maxRecDepth 100000 in
theorem wsL_i43 : ∀ w ∈ wsL_law_r43, w ∈ lw_tbl := by decide +kernel
set_option maxRecDepth 100000 in
theorem wsL_i44 : ∀ w ∈ wsL_law_r44, w ∈ lw_tbl := by decide +kernel
set_option maxRecDepth 100000 in
theorem wsL_i45 : ∀ w ∈ wsL_law_r45, w ∈ lw_tbl := by decide +kernel
set_option maxRecDepth 100000 in
theorem wsL_i46 : ∀ w ∈ wsL_law_r46, w ∈ lw_tbl := by decide +kernel
set_option maxRecDepth 100000 in
theorem wsL_i47 : ∀ w ∈ wsL_law_r47, w ∈ lw_tbl := by decide +kernel
set_option maxRecDepth 100000 in
theorem wsL_i48 : ∀ w ∈ wsL_law_r48, w ∈ lw_tbl := by decide +kernel
set_option maxRecDepth 100000 in
theorem wsL_X110 : ∀ w ∈ wsX110, w ∈ lw_tbl := by decide +kernel
set_option maxRecDepth 100000 in
theorem wsL_X130 : ∀ w ∈ wsX130, w ∈ lw_tbl := by decide +kernel
