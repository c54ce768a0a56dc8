set_option maxRecDepth 100000 in
set_option maxHeartbeats 4000000 in
theorem lb_1 : Cond.code yL_areAlerts cL_areAlerts 12 (some .boolean) ∈ lw_tbl := List.mem_of_getElem? (i := 886) rfl
