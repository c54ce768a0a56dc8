theorem inJ3 : ∀ w ∈ wsJ30, w ∈ lw_tbl := by decide +kernel
