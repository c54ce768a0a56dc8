set_option maxRecDepth 100000 in
set_option maxHeartbeats 4000000 in
theorem lb_2 : Cond.code yL_areBudgets cL_areBudgets 14 (some .boolean) ∈ lw_tbl := List.mem_of_getElem? (i := 890) rfl
