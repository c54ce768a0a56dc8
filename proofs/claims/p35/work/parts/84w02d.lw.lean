def lsg_0 : List Cond := [Cond.code yX7_standsOn cX7_standsOn 4 (some .boolean), Cond.methodLink RL 107 yL_told, Cond.static yL_told, Cond.code yL_told cL_told 1 (some .int), Cond.methodLink RL 111 yX7_isGuarded, Cond.instanceMethod yX7_isGuarded, Cond.selects RX7 yX7_isGuarded yX7_isGuarded, Cond.code yX7_isGuarded cX7_isGuarded 2 (some .boolean), Cond.methodLink RL 128 yX7_firings, Cond.instanceMethod yX7_firings, Cond.selects RX7 yX7_firings yX7_firings, Cond.code yX7_firings cX7_firings 1 (some .int), Cond.methodLink RL 169 yL_arePatterns, Cond.static yL_arePatterns]
set_option maxRecDepth 20000 in
theorem lsi_0 : ∀ w ∈ lsg_0, w ∈ lw_tbl := l_pos [872, 873, 874, 875, 876, 877, 878, 879, 129, 130, 131, 132, 880, 881] (by decide +kernel)
def lsg_1 : List Cond := [Cond.methodLink RL 123 Lib.Math.max.name, Cond.methodLink RL 173 yL_areAlerts, Cond.static yL_areAlerts]
set_option maxRecDepth 20000 in
theorem lsi_1 : ∀ w ∈ lsg_1, w ∈ lw_tbl := l_pos [883, 884, 885] (by decide +kernel)
def lsg_2 : List Cond := [Cond.arrayClass .boolean, Cond.methodLink RL 177 yL_areBudgets, Cond.static yL_areBudgets]
set_option maxRecDepth 20000 in
theorem lsi_2 : ∀ w ∈ lsg_2, w ∈ lw_tbl := l_pos [887, 888, 889] (by decide +kernel)
def lsg_3 : List Cond := [Cond.methodLink RL 135 yX7_bytes]
set_option maxRecDepth 20000 in
theorem lsi_3 : ∀ w ∈ lsg_3, w ∈ lw_tbl := l_pos [891] (by decide +kernel)
theorem lsg_eq : wsL_law0_r21 = (lsg_0 ++ (Cond.code yL_arePatterns cL_arePatterns 14 (some .boolean) :: (lsg_1 ++ (Cond.code yL_areAlerts cL_areAlerts 12 (some .boolean) :: (lsg_2 ++ (Cond.code yL_areBudgets cL_areBudgets 14 (some .boolean) :: lsg_3)))))) := rfl
theorem lr_21 : ∀ w ∈ wsL_law0_r21, w ∈ lw_tbl := by
  rw [lsg_eq]
  exact (l_app lsi_0 (List.forall_mem_cons.mpr ⟨lb_0, (l_app lsi_1 (List.forall_mem_cons.mpr ⟨lb_1, (l_app lsi_2 (List.forall_mem_cons.mpr ⟨lb_2, lsi_3⟩))⟩))⟩))
