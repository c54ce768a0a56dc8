set_option maxRecDepth 20000 in
theorem lb_0 : Cond.code yL_arePatterns cL_arePatterns 14 (some .boolean) ∈ lw_tbl := List.mem_of_getElem? (i := 882) (by decide +kernel)
