set_option maxRecDepth 20000 in
theorem kLaw_0 : (.constantLong RL 54 (4294967295) : Cond) ∈ wsL_law := by decide +kernel
