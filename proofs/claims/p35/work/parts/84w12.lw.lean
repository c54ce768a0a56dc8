set_option maxRecDepth 20000 in
theorem wsL_law_x5 : ∀ w ∈ (vx_atS RX7 255 "java/lang/UnsupportedOperationException" ["java/lang/RuntimeException", "java/lang/Exception"]).filter goodWord, w ∈ lw_tbl := by decide +kernel
