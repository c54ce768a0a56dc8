set_option maxHeartbeats 4000000 in
set_option maxRecDepth 100000 in
theorem a_told (l : Launch) (v : Nat) (hv9 : v ≤ 1) : Met l yL_told wsL_told ({ frames := 0, cells := 0, slots := 0, locals := 0 } : Room) (qU [.int (nI v)]) (qPV (some (.int (nI v)))) 0 0 (fun _ => False) := by
  refine Met.ofW (cc := cL_told) (maxL := 1) (ret := (some .int)) (by decide) rfl ?_
  intro p e s m args below meth c s₁ B hml hv
  obtain ⟨rfl, -⟩ := hv
  have hx := B.exec
  have hb := B.bytes
  have hr := B.returns
  have hts := atoms_spec (ws := wsL_told) B.pre
  have hown : s.vm.findClass RL = some m.cls := findClass_of_methodNamed B.named
  have hlocks := B.notSynchronized
  have hS : va_S (fun _ => False) s.heap s.heap [] := va_S.rf
  have hl := lv_entry ([.int (nI v)]) (n := 1) (Nat.le_of_ble_eq_true rfl)
  rw [lg_entry_eq]
  generalize (lg_sl ([.int (nI v)]) ++ List.replicate (1 - (lg_sl ([.int (nI v)])).length) Slot.unset).toArray = ls at hl ⊢
  have hl : lv_has ls 1 [(0, .int (nI v))] := hl
  refine lv_iload_n hx hb dL_told_0 rfl (lv_at hl 0 rfl) ?_
  refine q_eq0 (tgt := 8) hx hb (by omega) dL_told_1 (by decide) (fun c9 => ?_) (fun c9 => ?_)
  · skip
    refine lv_iconst (v := nI 0) hx hb dL_told_8 (by decide) ?_
    refine q_ti (y := nI v) (by rw [c9]) ?_
    exact W.iret hx hb hr (fun t ht _ => ⟨rfl, ht⟩) hS.2.2 dL_told_9
  · skip
    refine lv_iconst (v := nI 1) hx hb dL_told_4 (by decide) ?_
    refine lv_goto (tgt := 9) hx hb dL_told_5 (by decide) ?_
    refine q_ti (y := nI v) (by rw [show v = 1 by omega]) ?_
    exact W.iret hx hb hr (fun t ht _ => ⟨rfl, ht⟩) hS.2.2 dL_told_9
set_option maxHeartbeats 4000000 in
set_option maxRecDepth 100000 in
theorem a_stateOf (l : Launch) (G : QG) (es : Nat) (A : Nat → Prop) (σ ad : QSt) (hF : qWF σ) (i : Nat) (hi : i < σ 0 0) (bq : Int32) : Met l yL_asked wsL_asked ({ frames := 5, cells := 0, slots := 0, locals := 106 } : Room) (qR G es A σ ad [.ref (ad 0 0), .int (nI 0), .int (nI i), .int (bq)]) (qPV (some (.int (nI (σ 69 i))))) 0 0 (fun _ => False) := by
  refine Met.ofW (cc := cL_asked) (maxL := 4) (ret := (some .int)) (by decide) rfl ?_
  intro p e s m args below meth c s₁ B hml hv
  obtain ⟨rfl, hC, hW⟩ := hv
  have hx := B.exec
  have hb := B.bytes
  have hr := B.returns
  have hts := atoms_spec (ws := wsL_asked) B.pre
  have hown : s.vm.findClass RL = some m.cls := findClass_of_methodNamed B.named
  have hlocks := B.notSynchronized
  have hS : va_S (fun _ => False) s.heap s.heap [] := va_S.rf
  have hl := lv_entry ([.ref (ad 0 0), .int (nI 0), .int (nI i), .int (bq)]) (n := 4) (Nat.le_of_ble_eq_true rfl)
  rw [lg_entry_eq]
  generalize (lg_sl ([.ref (ad 0 0), .int (nI 0), .int (nI i), .int (bq)]) ++ List.replicate (4 - (lg_sl ([.ref (ad 0 0), .int (nI 0), .int (nI i), .int (bq)])).length) Slot.unset).toArray = ls at hl ⊢
  have hl : lv_has ls 4 [(0, .ref (ad 0 0)), (1, .int (nI 0)), (2, .int (nI i)), (3, .int (bq))] := hl
  refine lv_iload_n hx hb dL_asked_0 rfl (lv_at hl 1 rfl) ?_
  refine lv_tableIn (off := 83) (tgt := 84) hx hb dL_asked_1 (by decide +kernel) (by decide +kernel) (by decide +kernel) (by decide) ?_
  refine lv_aload_n hx hb dL_asked_84 rfl (lv_at hl 0 rfl) ?_
  refine lv_iload_n hx hb dL_asked_85 rfl (lv_at hl 2 rfl) ?_
  refine q_v (va_runV (As := [.int (nI i)]) (rest := []) ⟨hx, hb, hml, hown, hts⟩ (m_stateOf l G es A σ ad hF i hi) (cwV 1 hts gL_asked_X7_stateOf rfl rfl rfl (by decide +kernel) ⟨Nat.le_of_ble_eq_true rfl, Nat.le_of_ble_eq_true rfl⟩) ⟨qR.blind, qrecv hC (hW.to qLV0) rfl, qR.pre hC hW⟩ rfl rfl hl.1 rfl (lv_room (Nat.le_of_ble_eq_true rfl)) dL_asked_86 ⟨Nat.le_of_ble_eq_true rfl, Nat.le_of_ble_eq_true rfl⟩) hS (fun _ h => h.elim) (fun locs hS => ?_)
  exact W.iret hx hb hr (fun t ht _ => ⟨rfl, ht⟩) hS.2.2 dL_asked_89
set_option maxHeartbeats 4000000 in
set_option maxRecDepth 100000 in
theorem b_stateOf (l : Launch) (G : QG) (es : Nat) (A : Nat → Prop) (σ ad : QSt) (hF : qWF σ) (i : Nat) (hi : i < σ 0 0) (bq : Int32) : Met l yL_ask wsL_ask ({ frames := 6, cells := 0, slots := 0, locals := 129 } : Room) (qR G es A σ ad [.ref (ad 0 0), .int (nI 0), .int (nI i), .int (bq)]) (qPV (some (.int (nI (σ 69 i))))) 0 0 (fun _ => False) := by
  refine q_ofWH (cc := cL_ask) (maxL := 5) (ret := (some .int)) (hh := [(0, 7, 8, 118), (0, 7, 14, 21), (0, 7, 20, 23), (0, 7, 26, 52)]) (by decide) rfl ?_
  intro p e s m args below meth c s₁ B hml htab hv
  obtain ⟨rfl, hC, hW⟩ := hv
  have hx := B.exec
  have hb := B.bytes
  have hr := B.returns
  have hts := atoms_spec (ws := wsL_ask) B.pre
  have hown : s.vm.findClass RL = some m.cls := findClass_of_methodNamed B.named
  have hlocks := B.notSynchronized
  have hS : va_S (fun _ => False) s.heap s.heap [] := va_S.rf
  have hl := lv_entry ([.ref (ad 0 0), .int (nI 0), .int (nI i), .int (bq)]) (n := 5) (Nat.le_of_ble_eq_true rfl)
  rw [lg_entry_eq]
  generalize (lg_sl ([.ref (ad 0 0), .int (nI 0), .int (nI i), .int (bq)]) ++ List.replicate (5 - (lg_sl ([.ref (ad 0 0), .int (nI 0), .int (nI i), .int (bq)])).length) Slot.unset).toArray = ls at hl ⊢
  have hl : lv_has ls 5 [(0, .ref (ad 0 0)), (1, .int (nI 0)), (2, .int (nI i)), (3, .int (bq))] := hl
  refine lv_aload_n hx hb dL_ask_0 rfl (lv_at hl 0 rfl) ?_
  refine lv_iload_n hx hb dL_ask_1 rfl (lv_at hl 1 rfl) ?_
  refine lv_iload_n hx hb dL_ask_2 rfl (lv_at hl 2 rfl) ?_
  refine lv_iload_n hx hb dL_ask_3 rfl (lv_at hl 3 rfl) ?_
  refine q_v (va_runS (As := [.ref (ad 0 0), .int (nI 0), .int (nI i), .int (bq)]) (rest := []) ⟨hx, hb, hml, hown, hts⟩ (a_stateOf l G es A σ ad hF i hi bq) (va_cwS 4 hts gL_ask_L_asked rfl rfl rfl (by decide +kernel) ⟨Nat.le_of_ble_eq_true rfl, Nat.le_of_ble_eq_true rfl⟩) ⟨qR.blind, qR.pre hC hW⟩ rfl rfl hl.1 rfl (lv_room (Nat.le_of_ble_eq_true rfl)) dL_ask_4 ⟨Nat.le_of_ble_eq_true rfl, Nat.le_of_ble_eq_true rfl⟩) hS (fun _ h => h.elim) (fun locs hS => ?_)
  exact W.iret hx hb hr (fun t ht _ => ⟨rfl, ht⟩) hS.2.2 dL_ask_7
set_option maxHeartbeats 4000000 in
set_option maxRecDepth 100000 in
theorem a_patternOf (l : Launch) (G : QG) (es : Nat) (A : Nat → Prop) (σ ad : QSt) (hF : qWF σ) (i : Nat) (hi : i < σ 0 0) (bq : Int32) : Met l yL_asked wsL_asked ({ frames := 5, cells := 0, slots := 0, locals := 106 } : Room) (qR G es A σ ad [.ref (ad 0 0), .int (nI 1), .int (nI i), .int (bq)]) (qPV (some (.int (nI (σ 68 i))))) 0 0 (fun _ => False) := by
  refine Met.ofW (cc := cL_asked) (maxL := 4) (ret := (some .int)) (by decide) rfl ?_
  intro p e s m args below meth c s₁ B hml hv
  obtain ⟨rfl, hC, hW⟩ := hv
  have hx := B.exec
  have hb := B.bytes
  have hr := B.returns
  have hts := atoms_spec (ws := wsL_asked) B.pre
  have hown : s.vm.findClass RL = some m.cls := findClass_of_methodNamed B.named
  have hlocks := B.notSynchronized
  have hS : va_S (fun _ => False) s.heap s.heap [] := va_S.rf
  have hl := lv_entry ([.ref (ad 0 0), .int (nI 1), .int (nI i), .int (bq)]) (n := 4) (Nat.le_of_ble_eq_true rfl)
  rw [lg_entry_eq]
  generalize (lg_sl ([.ref (ad 0 0), .int (nI 1), .int (nI i), .int (bq)]) ++ List.replicate (4 - (lg_sl ([.ref (ad 0 0), .int (nI 1), .int (nI i), .int (bq)])).length) Slot.unset).toArray = ls at hl ⊢
  have hl : lv_has ls 4 [(0, .ref (ad 0 0)), (1, .int (nI 1)), (2, .int (nI i)), (3, .int (bq))] := hl
  refine lv_iload_n hx hb dL_asked_0 rfl (lv_at hl 1 rfl) ?_
  refine lv_tableIn (off := 89) (tgt := 90) hx hb dL_asked_1 (by decide +kernel) (by decide +kernel) (by decide +kernel) (by decide) ?_
  refine lv_aload_n hx hb dL_asked_90 rfl (lv_at hl 0 rfl) ?_
  refine lv_iload_n hx hb dL_asked_91 rfl (lv_at hl 2 rfl) ?_
  refine q_v (va_runV (As := [.int (nI i)]) (rest := []) ⟨hx, hb, hml, hown, hts⟩ (m_patternOf l G es A σ ad hF i hi) (cwV 1 hts gL_asked_X7_patternOf rfl rfl rfl (by decide +kernel) ⟨Nat.le_of_ble_eq_true rfl, Nat.le_of_ble_eq_true rfl⟩) ⟨qR.blind, qrecv hC (hW.to qLV0) rfl, qR.pre hC hW⟩ rfl rfl hl.1 rfl (lv_room (Nat.le_of_ble_eq_true rfl)) dL_asked_92 ⟨Nat.le_of_ble_eq_true rfl, Nat.le_of_ble_eq_true rfl⟩) hS (fun _ h => h.elim) (fun locs hS => ?_)
  exact W.iret hx hb hr (fun t ht _ => ⟨rfl, ht⟩) hS.2.2 dL_asked_95
set_option maxHeartbeats 4000000 in
set_option maxRecDepth 100000 in
theorem b_patternOf (l : Launch) (G : QG) (es : Nat) (A : Nat → Prop) (σ ad : QSt) (hF : qWF σ) (i : Nat) (hi : i < σ 0 0) (bq : Int32) : Met l yL_ask wsL_ask ({ frames := 6, cells := 0, slots := 0, locals := 129 } : Room) (qR G es A σ ad [.ref (ad 0 0), .int (nI 1), .int (nI i), .int (bq)]) (qPV (some (.int (nI (σ 68 i))))) 0 0 (fun _ => False) := by
  refine q_ofWH (cc := cL_ask) (maxL := 5) (ret := (some .int)) (hh := [(0, 7, 8, 118), (0, 7, 14, 21), (0, 7, 20, 23), (0, 7, 26, 52)]) (by decide) rfl ?_
  intro p e s m args below meth c s₁ B hml htab hv
  obtain ⟨rfl, hC, hW⟩ := hv
  have hx := B.exec
  have hb := B.bytes
  have hr := B.returns
  have hts := atoms_spec (ws := wsL_ask) B.pre
  have hown : s.vm.findClass RL = some m.cls := findClass_of_methodNamed B.named
  have hlocks := B.notSynchronized
  have hS : va_S (fun _ => False) s.heap s.heap [] := va_S.rf
  have hl := lv_entry ([.ref (ad 0 0), .int (nI 1), .int (nI i), .int (bq)]) (n := 5) (Nat.le_of_ble_eq_true rfl)
  rw [lg_entry_eq]
  generalize (lg_sl ([.ref (ad 0 0), .int (nI 1), .int (nI i), .int (bq)]) ++ List.replicate (5 - (lg_sl ([.ref (ad 0 0), .int (nI 1), .int (nI i), .int (bq)])).length) Slot.unset).toArray = ls at hl ⊢
  have hl : lv_has ls 5 [(0, .ref (ad 0 0)), (1, .int (nI 1)), (2, .int (nI i)), (3, .int (bq))] := hl
  refine lv_aload_n hx hb dL_ask_0 rfl (lv_at hl 0 rfl) ?_
  refine lv_iload_n hx hb dL_ask_1 rfl (lv_at hl 1 rfl) ?_
  refine lv_iload_n hx hb dL_ask_2 rfl (lv_at hl 2 rfl) ?_
  refine lv_iload_n hx hb dL_ask_3 rfl (lv_at hl 3 rfl) ?_
  refine q_v (va_runS (As := [.ref (ad 0 0), .int (nI 1), .int (nI i), .int (bq)]) (rest := []) ⟨hx, hb, hml, hown, hts⟩ (a_patternOf l G es A σ ad hF i hi bq) (va_cwS 4 hts gL_ask_L_asked rfl rfl rfl (by decide +kernel) ⟨Nat.le_of_ble_eq_true rfl, Nat.le_of_ble_eq_true rfl⟩) ⟨qR.blind, qR.pre hC hW⟩ rfl rfl hl.1 rfl (lv_room (Nat.le_of_ble_eq_true rfl)) dL_ask_4 ⟨Nat.le_of_ble_eq_true rfl, Nat.le_of_ble_eq_true rfl⟩) hS (fun _ h => h.elim) (fun locs hS => ?_)
  exact W.iret hx hb hr (fun t ht _ => ⟨rfl, ht⟩) hS.2.2 dL_ask_7
set_option maxHeartbeats 4000000 in
set_option maxRecDepth 100000 in
theorem a_patterns (l : Launch) (G : QG) (es : Nat) (A : Nat → Prop) (σ ad : QSt) (hF : qWF σ) (s0 : Nat) (hs0 : s0 < 4) (bq : Int32) : Met l yL_asked wsL_asked ({ frames := 4, cells := 0, slots := 0, locals := 88 } : Room) (qR G es A σ ad [.ref (ad 0 0), .int (nI 2), .int (nI s0), .int (bq)]) (qPV (some (.int (nI (qsum (fun l => qB (σ 96 l = s0 ∧ σ 97 l = 0)) (σ 0 1)))))) 0 0 (fun _ => False) := by
  refine Met.ofW (cc := cL_asked) (maxL := 4) (ret := (some .int)) (by decide) rfl ?_
  intro p e s m args below meth c s₁ B hml hv
  obtain ⟨rfl, hC, hW⟩ := hv
  have hx := B.exec
  have hb := B.bytes
  have hr := B.returns
  have hts := atoms_spec (ws := wsL_asked) B.pre
  have hown : s.vm.findClass RL = some m.cls := findClass_of_methodNamed B.named
  have hlocks := B.notSynchronized
  have hS : va_S (fun _ => False) s.heap s.heap [] := va_S.rf
  have hl := lv_entry ([.ref (ad 0 0), .int (nI 2), .int (nI s0), .int (bq)]) (n := 4) (Nat.le_of_ble_eq_true rfl)
  rw [lg_entry_eq]
  generalize (lg_sl ([.ref (ad 0 0), .int (nI 2), .int (nI s0), .int (bq)]) ++ List.replicate (4 - (lg_sl ([.ref (ad 0 0), .int (nI 2), .int (nI s0), .int (bq)])).length) Slot.unset).toArray = ls at hl ⊢
  have hl : lv_has ls 4 [(0, .ref (ad 0 0)), (1, .int (nI 2)), (2, .int (nI s0)), (3, .int (bq))] := hl
  refine lv_iload_n hx hb dL_asked_0 rfl (lv_at hl 1 rfl) ?_
  refine lv_tableIn (off := 95) (tgt := 96) hx hb dL_asked_1 (by decide +kernel) (by decide +kernel) (by decide +kernel) (by decide) ?_
  refine lv_aload_n hx hb dL_asked_96 rfl (lv_at hl 0 rfl) ?_
  refine lv_iload_n hx hb dL_asked_97 rfl (lv_at hl 2 rfl) ?_
  refine q_v (va_runV (As := [.int (nI s0)]) (rest := []) ⟨hx, hb, hml, hown, hts⟩ (m_patterns l G es A σ ad hF s0 hs0) (cwV 1 hts gL_asked_X7_patterns rfl rfl rfl (by decide +kernel) ⟨Nat.le_of_ble_eq_true rfl, Nat.le_of_ble_eq_true rfl⟩) ⟨qR.blind, qrecv hC (hW.to qLV0) rfl, qR.pre hC hW⟩ rfl rfl hl.1 rfl (lv_room (Nat.le_of_ble_eq_true rfl)) dL_asked_98 ⟨Nat.le_of_ble_eq_true rfl, Nat.le_of_ble_eq_true rfl⟩) hS (fun _ h => h.elim) (fun locs hS => ?_)
  exact W.iret hx hb hr (fun t ht _ => ⟨rfl, ht⟩) hS.2.2 dL_asked_101
set_option maxHeartbeats 4000000 in
set_option maxRecDepth 100000 in
theorem b_patterns (l : Launch) (G : QG) (es : Nat) (A : Nat → Prop) (σ ad : QSt) (hF : qWF σ) (s0 : Nat) (hs0 : s0 < 4) (bq : Int32) : Met l yL_ask wsL_ask ({ frames := 5, cells := 0, slots := 0, locals := 111 } : Room) (qR G es A σ ad [.ref (ad 0 0), .int (nI 2), .int (nI s0), .int (bq)]) (qPV (some (.int (nI (qsum (fun l => qB (σ 96 l = s0 ∧ σ 97 l = 0)) (σ 0 1)))))) 0 0 (fun _ => False) := by
  refine q_ofWH (cc := cL_ask) (maxL := 5) (ret := (some .int)) (hh := [(0, 7, 8, 118), (0, 7, 14, 21), (0, 7, 20, 23), (0, 7, 26, 52)]) (by decide) rfl ?_
  intro p e s m args below meth c s₁ B hml htab hv
  obtain ⟨rfl, hC, hW⟩ := hv
  have hx := B.exec
  have hb := B.bytes
  have hr := B.returns
  have hts := atoms_spec (ws := wsL_ask) B.pre
  have hown : s.vm.findClass RL = some m.cls := findClass_of_methodNamed B.named
  have hlocks := B.notSynchronized
  have hS : va_S (fun _ => False) s.heap s.heap [] := va_S.rf
  have hl := lv_entry ([.ref (ad 0 0), .int (nI 2), .int (nI s0), .int (bq)]) (n := 5) (Nat.le_of_ble_eq_true rfl)
  rw [lg_entry_eq]
  generalize (lg_sl ([.ref (ad 0 0), .int (nI 2), .int (nI s0), .int (bq)]) ++ List.replicate (5 - (lg_sl ([.ref (ad 0 0), .int (nI 2), .int (nI s0), .int (bq)])).length) Slot.unset).toArray = ls at hl ⊢
  have hl : lv_has ls 5 [(0, .ref (ad 0 0)), (1, .int (nI 2)), (2, .int (nI s0)), (3, .int (bq))] := hl
  refine lv_aload_n hx hb dL_ask_0 rfl (lv_at hl 0 rfl) ?_
  refine lv_iload_n hx hb dL_ask_1 rfl (lv_at hl 1 rfl) ?_
  refine lv_iload_n hx hb dL_ask_2 rfl (lv_at hl 2 rfl) ?_
  refine lv_iload_n hx hb dL_ask_3 rfl (lv_at hl 3 rfl) ?_
  refine q_v (va_runS (As := [.ref (ad 0 0), .int (nI 2), .int (nI s0), .int (bq)]) (rest := []) ⟨hx, hb, hml, hown, hts⟩ (a_patterns l G es A σ ad hF s0 hs0 bq) (va_cwS 4 hts gL_ask_L_asked rfl rfl rfl (by decide +kernel) ⟨Nat.le_of_ble_eq_true rfl, Nat.le_of_ble_eq_true rfl⟩) ⟨qR.blind, qR.pre hC hW⟩ rfl rfl hl.1 rfl (lv_room (Nat.le_of_ble_eq_true rfl)) dL_ask_4 ⟨Nat.le_of_ble_eq_true rfl, Nat.le_of_ble_eq_true rfl⟩) hS (fun _ h => h.elim) (fun locs hS => ?_)
  exact W.iret hx hb hr (fun t ht _ => ⟨rfl, ht⟩) hS.2.2 dL_ask_7
set_option maxHeartbeats 4000000 in
set_option maxRecDepth 100000 in
theorem a_wordAt (l : Launch) (G : QG) (es : Nat) (A : Nat → Prop) (σ ad : QSt) (hF : qWF σ) (p0 k : Nat) (hp : p0 < σ 0 1) (hm : σ 97 p0 = 0) (hk : k < 3) : Met l yL_asked wsL_asked ({ frames := 5, cells := 0, slots := 0, locals := 109 } : Room) (qR G es A σ ad [.ref (ad 0 0), .int (nI 3), .int (nI p0), .int (nI k)]) (qPV (some (.int (nI (σ (112 + k) p0) - 1)))) 0 0 (fun _ => False) := by
  refine Met.ofW (cc := cL_asked) (maxL := 4) (ret := (some .int)) (by decide) rfl ?_
  intro p e s m args below meth c s₁ B hml hv
  obtain ⟨rfl, hC, hW⟩ := hv
  have hx := B.exec
  have hb := B.bytes
  have hr := B.returns
  have hts := atoms_spec (ws := wsL_asked) B.pre
  have hown : s.vm.findClass RL = some m.cls := findClass_of_methodNamed B.named
  have hlocks := B.notSynchronized
  have hS : va_S (fun _ => False) s.heap s.heap [] := va_S.rf
  have hl := lv_entry ([.ref (ad 0 0), .int (nI 3), .int (nI p0), .int (nI k)]) (n := 4) (Nat.le_of_ble_eq_true rfl)
  rw [lg_entry_eq]
  generalize (lg_sl ([.ref (ad 0 0), .int (nI 3), .int (nI p0), .int (nI k)]) ++ List.replicate (4 - (lg_sl ([.ref (ad 0 0), .int (nI 3), .int (nI p0), .int (nI k)])).length) Slot.unset).toArray = ls at hl ⊢
  have hl : lv_has ls 4 [(0, .ref (ad 0 0)), (1, .int (nI 3)), (2, .int (nI p0)), (3, .int (nI k))] := hl
  refine lv_iload_n hx hb dL_asked_0 rfl (lv_at hl 1 rfl) ?_
  refine lv_tableIn (off := 101) (tgt := 102) hx hb dL_asked_1 (by decide +kernel) (by decide +kernel) (by decide +kernel) (by decide) ?_
  refine lv_aload_n hx hb dL_asked_102 rfl (lv_at hl 0 rfl) ?_
  refine lv_iload_n hx hb dL_asked_103 rfl (lv_at hl 2 rfl) ?_
  refine lv_iload_n hx hb dL_asked_104 rfl (lv_at hl 3 rfl) ?_
  refine q_v (va_runV (As := [.int (nI p0), .int (nI k)]) (rest := []) ⟨hx, hb, hml, hown, hts⟩ (m_wordAt l G es A σ ad hF p0 k hp hm hk) (cwV 2 hts gL_asked_X7_wordAt rfl rfl rfl (by decide +kernel) ⟨Nat.le_of_ble_eq_true rfl, Nat.le_of_ble_eq_true rfl⟩) ⟨qR.blind, qrecv hC (hW.to qLV0) rfl, qR.pre hC hW⟩ rfl rfl hl.1 rfl (lv_room (Nat.le_of_ble_eq_true rfl)) dL_asked_105 ⟨Nat.le_of_ble_eq_true rfl, Nat.le_of_ble_eq_true rfl⟩) hS (fun _ h => h.elim) (fun locs hS => ?_)
  exact W.iret hx hb hr (fun t ht _ => ⟨rfl, ht⟩) hS.2.2 dL_asked_108
set_option maxHeartbeats 4000000 in
set_option maxRecDepth 100000 in
theorem b_wordAt (l : Launch) (G : QG) (es : Nat) (A : Nat → Prop) (σ ad : QSt) (hF : qWF σ) (p0 k : Nat) (hp : p0 < σ 0 1) (hm : σ 97 p0 = 0) (hk : k < 3) : Met l yL_ask wsL_ask ({ frames := 6, cells := 0, slots := 0, locals := 132 } : Room) (qR G es A σ ad [.ref (ad 0 0), .int (nI 3), .int (nI p0), .int (nI k)]) (qPV (some (.int (nI (σ (112 + k) p0) - 1)))) 0 0 (fun _ => False) := by
  refine q_ofWH (cc := cL_ask) (maxL := 5) (ret := (some .int)) (hh := [(0, 7, 8, 118), (0, 7, 14, 21), (0, 7, 20, 23), (0, 7, 26, 52)]) (by decide) rfl ?_
  intro p e s m args below meth c s₁ B hml htab hv
  obtain ⟨rfl, hC, hW⟩ := hv
  have hx := B.exec
  have hb := B.bytes
  have hr := B.returns
  have hts := atoms_spec (ws := wsL_ask) B.pre
  have hown : s.vm.findClass RL = some m.cls := findClass_of_methodNamed B.named
  have hlocks := B.notSynchronized
  have hS : va_S (fun _ => False) s.heap s.heap [] := va_S.rf
  have hl := lv_entry ([.ref (ad 0 0), .int (nI 3), .int (nI p0), .int (nI k)]) (n := 5) (Nat.le_of_ble_eq_true rfl)
  rw [lg_entry_eq]
  generalize (lg_sl ([.ref (ad 0 0), .int (nI 3), .int (nI p0), .int (nI k)]) ++ List.replicate (5 - (lg_sl ([.ref (ad 0 0), .int (nI 3), .int (nI p0), .int (nI k)])).length) Slot.unset).toArray = ls at hl ⊢
  have hl : lv_has ls 5 [(0, .ref (ad 0 0)), (1, .int (nI 3)), (2, .int (nI p0)), (3, .int (nI k))] := hl
  refine lv_aload_n hx hb dL_ask_0 rfl (lv_at hl 0 rfl) ?_
  refine lv_iload_n hx hb dL_ask_1 rfl (lv_at hl 1 rfl) ?_
  refine lv_iload_n hx hb dL_ask_2 rfl (lv_at hl 2 rfl) ?_
  refine lv_iload_n hx hb dL_ask_3 rfl (lv_at hl 3 rfl) ?_
  refine q_v (va_runS (As := [.ref (ad 0 0), .int (nI 3), .int (nI p0), .int (nI k)]) (rest := []) ⟨hx, hb, hml, hown, hts⟩ (a_wordAt l G es A σ ad hF p0 k hp hm hk) (va_cwS 4 hts gL_ask_L_asked rfl rfl rfl (by decide +kernel) ⟨Nat.le_of_ble_eq_true rfl, Nat.le_of_ble_eq_true rfl⟩) ⟨qR.blind, qR.pre hC hW⟩ rfl rfl hl.1 rfl (lv_room (Nat.le_of_ble_eq_true rfl)) dL_ask_4 ⟨Nat.le_of_ble_eq_true rfl, Nat.le_of_ble_eq_true rfl⟩) hS (fun _ h => h.elim) (fun locs hS => ?_)
  exact W.iret hx hb hr (fun t ht _ => ⟨rfl, ht⟩) hS.2.2 dL_ask_7
set_option maxHeartbeats 4000000 in
set_option maxRecDepth 100000 in
theorem a_linesOf (l : Launch) (G : QG) (es : Nat) (A : Nat → Prop) (σ ad : QSt) (hF : qWF σ) (p0 : Nat) (hp : p0 < σ 0 1) (hm : σ 97 p0 = 0) (bq : Int32) : Met l yL_asked wsL_asked ({ frames := 5, cells := 0, slots := 0, locals := 110 } : Room) (qR G es A σ ad [.ref (ad 0 0), .int (nI 4), .int (nI p0), .int (bq)]) (qPV (some (.int (nI (qsum (fun l => qB (σ 68 l = p0)) (σ 0 0)))))) 0 0 (fun _ => False) := by
  refine Met.ofW (cc := cL_asked) (maxL := 4) (ret := (some .int)) (by decide) rfl ?_
  intro p e s m args below meth c s₁ B hml hv
  obtain ⟨rfl, hC, hW⟩ := hv
  have hx := B.exec
  have hb := B.bytes
  have hr := B.returns
  have hts := atoms_spec (ws := wsL_asked) B.pre
  have hown : s.vm.findClass RL = some m.cls := findClass_of_methodNamed B.named
  have hlocks := B.notSynchronized
  have hS : va_S (fun _ => False) s.heap s.heap [] := va_S.rf
  have hl := lv_entry ([.ref (ad 0 0), .int (nI 4), .int (nI p0), .int (bq)]) (n := 4) (Nat.le_of_ble_eq_true rfl)
  rw [lg_entry_eq]
  generalize (lg_sl ([.ref (ad 0 0), .int (nI 4), .int (nI p0), .int (bq)]) ++ List.replicate (4 - (lg_sl ([.ref (ad 0 0), .int (nI 4), .int (nI p0), .int (bq)])).length) Slot.unset).toArray = ls at hl ⊢
  have hl : lv_has ls 4 [(0, .ref (ad 0 0)), (1, .int (nI 4)), (2, .int (nI p0)), (3, .int (bq))] := hl
  refine lv_iload_n hx hb dL_asked_0 rfl (lv_at hl 1 rfl) ?_
  refine lv_tableIn (off := 108) (tgt := 109) hx hb dL_asked_1 (by decide +kernel) (by decide +kernel) (by decide +kernel) (by decide) ?_
  refine lv_aload_n hx hb dL_asked_109 rfl (lv_at hl 0 rfl) ?_
  refine lv_iload_n hx hb dL_asked_110 rfl (lv_at hl 2 rfl) ?_
  refine q_v (va_runV (As := [.int (nI p0)]) (rest := []) ⟨hx, hb, hml, hown, hts⟩ (m_linesOf l G es A σ ad hF p0 hp hm) (cwV 1 hts gL_asked_X7_linesOf rfl rfl rfl (by decide +kernel) ⟨Nat.le_of_ble_eq_true rfl, Nat.le_of_ble_eq_true rfl⟩) ⟨qR.blind, qrecv hC (hW.to qLV0) rfl, qR.pre hC hW⟩ rfl rfl hl.1 rfl (lv_room (Nat.le_of_ble_eq_true rfl)) dL_asked_111 ⟨Nat.le_of_ble_eq_true rfl, Nat.le_of_ble_eq_true rfl⟩) hS (fun _ h => h.elim) (fun locs hS => ?_)
  exact W.iret hx hb hr (fun t ht _ => ⟨rfl, ht⟩) hS.2.2 dL_asked_114
set_option maxHeartbeats 4000000 in
set_option maxRecDepth 100000 in
theorem b_linesOf (l : Launch) (G : QG) (es : Nat) (A : Nat → Prop) (σ ad : QSt) (hF : qWF σ) (p0 : Nat) (hp : p0 < σ 0 1) (hm : σ 97 p0 = 0) (bq : Int32) : Met l yL_ask wsL_ask ({ frames := 6, cells := 0, slots := 0, locals := 133 } : Room) (qR G es A σ ad [.ref (ad 0 0), .int (nI 4), .int (nI p0), .int (bq)]) (qPV (some (.int (nI (qsum (fun l => qB (σ 68 l = p0)) (σ 0 0)))))) 0 0 (fun _ => False) := by
  refine q_ofWH (cc := cL_ask) (maxL := 5) (ret := (some .int)) (hh := [(0, 7, 8, 118), (0, 7, 14, 21), (0, 7, 20, 23), (0, 7, 26, 52)]) (by decide) rfl ?_
  intro p e s m args below meth c s₁ B hml htab hv
  obtain ⟨rfl, hC, hW⟩ := hv
  have hx := B.exec
  have hb := B.bytes
  have hr := B.returns
  have hts := atoms_spec (ws := wsL_ask) B.pre
  have hown : s.vm.findClass RL = some m.cls := findClass_of_methodNamed B.named
  have hlocks := B.notSynchronized
  have hS : va_S (fun _ => False) s.heap s.heap [] := va_S.rf
  have hl := lv_entry ([.ref (ad 0 0), .int (nI 4), .int (nI p0), .int (bq)]) (n := 5) (Nat.le_of_ble_eq_true rfl)
  rw [lg_entry_eq]
  generalize (lg_sl ([.ref (ad 0 0), .int (nI 4), .int (nI p0), .int (bq)]) ++ List.replicate (5 - (lg_sl ([.ref (ad 0 0), .int (nI 4), .int (nI p0), .int (bq)])).length) Slot.unset).toArray = ls at hl ⊢
  have hl : lv_has ls 5 [(0, .ref (ad 0 0)), (1, .int (nI 4)), (2, .int (nI p0)), (3, .int (bq))] := hl
  refine lv_aload_n hx hb dL_ask_0 rfl (lv_at hl 0 rfl) ?_
  refine lv_iload_n hx hb dL_ask_1 rfl (lv_at hl 1 rfl) ?_
  refine lv_iload_n hx hb dL_ask_2 rfl (lv_at hl 2 rfl) ?_
  refine lv_iload_n hx hb dL_ask_3 rfl (lv_at hl 3 rfl) ?_
  refine q_v (va_runS (As := [.ref (ad 0 0), .int (nI 4), .int (nI p0), .int (bq)]) (rest := []) ⟨hx, hb, hml, hown, hts⟩ (a_linesOf l G es A σ ad hF p0 hp hm bq) (va_cwS 4 hts gL_ask_L_asked rfl rfl rfl (by decide +kernel) ⟨Nat.le_of_ble_eq_true rfl, Nat.le_of_ble_eq_true rfl⟩) ⟨qR.blind, qR.pre hC hW⟩ rfl rfl hl.1 rfl (lv_room (Nat.le_of_ble_eq_true rfl)) dL_ask_4 ⟨Nat.le_of_ble_eq_true rfl, Nat.le_of_ble_eq_true rfl⟩) hS (fun _ h => h.elim) (fun locs hS => ?_)
  exact W.iret hx hb hr (fun t ht _ => ⟨rfl, ht⟩) hS.2.2 dL_ask_7
set_option maxHeartbeats 4000000 in
set_option maxRecDepth 100000 in
theorem a_values (l : Launch) (G : QG) (es : Nat) (A : Nat → Prop) (σ ad : QSt) (hF : qWF σ) (p0 k : Nat) (hp : p0 < σ 0 1) (hm : σ 97 p0 = 0) (hk : k < 3) : Met l yL_asked wsL_asked ({ frames := 5, cells := 0, slots := 0, locals := 116 } : Room) (qR G es A σ ad [.ref (ad 0 0), .int (nI 5), .int (nI p0), .int (nI k)]) (qPV (some (.int (nI (qsum (qVF σ p0 k (σ 0 0)) 100))))) 0 0 (fun _ => False) := by
  refine Met.ofW (cc := cL_asked) (maxL := 4) (ret := (some .int)) (by decide) rfl ?_
  intro p e s m args below meth c s₁ B hml hv
  obtain ⟨rfl, hC, hW⟩ := hv
  have hx := B.exec
  have hb := B.bytes
  have hr := B.returns
  have hts := atoms_spec (ws := wsL_asked) B.pre
  have hown : s.vm.findClass RL = some m.cls := findClass_of_methodNamed B.named
  have hlocks := B.notSynchronized
  have hS : va_S (fun _ => False) s.heap s.heap [] := va_S.rf
  have hl := lv_entry ([.ref (ad 0 0), .int (nI 5), .int (nI p0), .int (nI k)]) (n := 4) (Nat.le_of_ble_eq_true rfl)
  rw [lg_entry_eq]
  generalize (lg_sl ([.ref (ad 0 0), .int (nI 5), .int (nI p0), .int (nI k)]) ++ List.replicate (4 - (lg_sl ([.ref (ad 0 0), .int (nI 5), .int (nI p0), .int (nI k)])).length) Slot.unset).toArray = ls at hl ⊢
  have hl : lv_has ls 4 [(0, .ref (ad 0 0)), (1, .int (nI 5)), (2, .int (nI p0)), (3, .int (nI k))] := hl
  refine lv_iload_n hx hb dL_asked_0 rfl (lv_at hl 1 rfl) ?_
  refine lv_tableIn (off := 114) (tgt := 115) hx hb dL_asked_1 (by decide +kernel) (by decide +kernel) (by decide +kernel) (by decide) ?_
  refine lv_aload_n hx hb dL_asked_115 rfl (lv_at hl 0 rfl) ?_
  refine lv_iload_n hx hb dL_asked_116 rfl (lv_at hl 2 rfl) ?_
  refine lv_iload_n hx hb dL_asked_117 rfl (lv_at hl 3 rfl) ?_
  refine q_v (va_runV (As := [.int (nI p0), .int (nI k)]) (rest := []) ⟨hx, hb, hml, hown, hts⟩ (m_values l G es A σ ad hF p0 k hp hm hk) (cwV 2 hts gL_asked_X7_values rfl rfl rfl (by decide +kernel) ⟨Nat.le_of_ble_eq_true rfl, Nat.le_of_ble_eq_true rfl⟩) ⟨qR.blind, qrecv hC (hW.to qLV0) rfl, qR.pre hC hW⟩ rfl rfl hl.1 rfl (lv_room (Nat.le_of_ble_eq_true rfl)) dL_asked_118 ⟨Nat.le_of_ble_eq_true rfl, Nat.le_of_ble_eq_true rfl⟩) hS (fun _ h => h.elim) (fun locs hS => ?_)
  exact W.iret hx hb hr (fun t ht _ => ⟨rfl, ht⟩) hS.2.2 dL_asked_121
set_option maxHeartbeats 4000000 in
set_option maxRecDepth 100000 in
theorem b_values (l : Launch) (G : QG) (es : Nat) (A : Nat → Prop) (σ ad : QSt) (hF : qWF σ) (p0 k : Nat) (hp : p0 < σ 0 1) (hm : σ 97 p0 = 0) (hk : k < 3) : Met l yL_ask wsL_ask ({ frames := 6, cells := 0, slots := 0, locals := 139 } : Room) (qR G es A σ ad [.ref (ad 0 0), .int (nI 5), .int (nI p0), .int (nI k)]) (qPV (some (.int (nI (qsum (qVF σ p0 k (σ 0 0)) 100))))) 0 0 (fun _ => False) := by
  refine q_ofWH (cc := cL_ask) (maxL := 5) (ret := (some .int)) (hh := [(0, 7, 8, 118), (0, 7, 14, 21), (0, 7, 20, 23), (0, 7, 26, 52)]) (by decide) rfl ?_
  intro p e s m args below meth c s₁ B hml htab hv
  obtain ⟨rfl, hC, hW⟩ := hv
  have hx := B.exec
  have hb := B.bytes
  have hr := B.returns
  have hts := atoms_spec (ws := wsL_ask) B.pre
  have hown : s.vm.findClass RL = some m.cls := findClass_of_methodNamed B.named
  have hlocks := B.notSynchronized
  have hS : va_S (fun _ => False) s.heap s.heap [] := va_S.rf
  have hl := lv_entry ([.ref (ad 0 0), .int (nI 5), .int (nI p0), .int (nI k)]) (n := 5) (Nat.le_of_ble_eq_true rfl)
  rw [lg_entry_eq]
  generalize (lg_sl ([.ref (ad 0 0), .int (nI 5), .int (nI p0), .int (nI k)]) ++ List.replicate (5 - (lg_sl ([.ref (ad 0 0), .int (nI 5), .int (nI p0), .int (nI k)])).length) Slot.unset).toArray = ls at hl ⊢
  have hl : lv_has ls 5 [(0, .ref (ad 0 0)), (1, .int (nI 5)), (2, .int (nI p0)), (3, .int (nI k))] := hl
  refine lv_aload_n hx hb dL_ask_0 rfl (lv_at hl 0 rfl) ?_
  refine lv_iload_n hx hb dL_ask_1 rfl (lv_at hl 1 rfl) ?_
  refine lv_iload_n hx hb dL_ask_2 rfl (lv_at hl 2 rfl) ?_
  refine lv_iload_n hx hb dL_ask_3 rfl (lv_at hl 3 rfl) ?_
  refine q_v (va_runS (As := [.ref (ad 0 0), .int (nI 5), .int (nI p0), .int (nI k)]) (rest := []) ⟨hx, hb, hml, hown, hts⟩ (a_values l G es A σ ad hF p0 k hp hm hk) (va_cwS 4 hts gL_ask_L_asked rfl rfl rfl (by decide +kernel) ⟨Nat.le_of_ble_eq_true rfl, Nat.le_of_ble_eq_true rfl⟩) ⟨qR.blind, qR.pre hC hW⟩ rfl rfl hl.1 rfl (lv_room (Nat.le_of_ble_eq_true rfl)) dL_ask_4 ⟨Nat.le_of_ble_eq_true rfl, Nat.le_of_ble_eq_true rfl⟩) hS (fun _ h => h.elim) (fun locs hS => ?_)
  exact W.iret hx hb hr (fun t ht _ => ⟨rfl, ht⟩) hS.2.2 dL_ask_7
set_option maxHeartbeats 4000000 in
set_option maxRecDepth 100000 in
theorem a_kept (l : Launch) (G : QG) (es : Nat) (A : Nat → Prop) (σ ad : QSt) (hF : qWF σ) (s0 : Nat) (hs0 : s0 < 4) (bq : Int32) : Met l yL_asked wsL_asked ({ frames := 5, cells := 0, slots := 0, locals := 109 } : Room) (qR G es A σ ad [.ref (ad 0 0), .int (nI 6), .int (nI s0), .int (bq)]) (qPV (some (.int (nI (qkept σ s0))))) 0 0 (fun _ => False) := by
  refine Met.ofW (cc := cL_asked) (maxL := 4) (ret := (some .int)) (by decide) rfl ?_
  intro p e s m args below meth c s₁ B hml hv
  obtain ⟨rfl, hC, hW⟩ := hv
  have hx := B.exec
  have hb := B.bytes
  have hr := B.returns
  have hts := atoms_spec (ws := wsL_asked) B.pre
  have hown : s.vm.findClass RL = some m.cls := findClass_of_methodNamed B.named
  have hlocks := B.notSynchronized
  have hS : va_S (fun _ => False) s.heap s.heap [] := va_S.rf
  have hl := lv_entry ([.ref (ad 0 0), .int (nI 6), .int (nI s0), .int (bq)]) (n := 4) (Nat.le_of_ble_eq_true rfl)
  rw [lg_entry_eq]
  generalize (lg_sl ([.ref (ad 0 0), .int (nI 6), .int (nI s0), .int (bq)]) ++ List.replicate (4 - (lg_sl ([.ref (ad 0 0), .int (nI 6), .int (nI s0), .int (bq)])).length) Slot.unset).toArray = ls at hl ⊢
  have hl : lv_has ls 4 [(0, .ref (ad 0 0)), (1, .int (nI 6)), (2, .int (nI s0)), (3, .int (bq))] := hl
  refine lv_iload_n hx hb dL_asked_0 rfl (lv_at hl 1 rfl) ?_
  refine lv_tableIn (off := 121) (tgt := 122) hx hb dL_asked_1 (by decide +kernel) (by decide +kernel) (by decide +kernel) (by decide) ?_
  refine lv_aload_n hx hb dL_asked_122 rfl (lv_at hl 0 rfl) ?_
  refine lv_iload_n hx hb dL_asked_123 rfl (lv_at hl 2 rfl) ?_
  refine q_v (va_runV (As := [.int (nI s0)]) (rest := []) ⟨hx, hb, hml, hown, hts⟩ (m_kept l G es A σ ad hF s0 hs0) (cwV 1 hts gL_asked_X7_kept rfl rfl rfl (by decide +kernel) ⟨Nat.le_of_ble_eq_true rfl, Nat.le_of_ble_eq_true rfl⟩) ⟨qR.blind, qrecv hC (hW.to qLV0) rfl, qR.pre hC hW⟩ rfl rfl hl.1 rfl (lv_room (Nat.le_of_ble_eq_true rfl)) dL_asked_124 ⟨Nat.le_of_ble_eq_true rfl, Nat.le_of_ble_eq_true rfl⟩) hS (fun _ h => h.elim) (fun locs hS => ?_)
  exact W.iret hx hb hr (fun t ht _ => ⟨rfl, ht⟩) hS.2.2 dL_asked_127
set_option maxHeartbeats 4000000 in
set_option maxRecDepth 100000 in
theorem b_kept (l : Launch) (G : QG) (es : Nat) (A : Nat → Prop) (σ ad : QSt) (hF : qWF σ) (s0 : Nat) (hs0 : s0 < 4) (bq : Int32) : Met l yL_ask wsL_ask ({ frames := 6, cells := 0, slots := 0, locals := 132 } : Room) (qR G es A σ ad [.ref (ad 0 0), .int (nI 6), .int (nI s0), .int (bq)]) (qPV (some (.int (nI (qkept σ s0))))) 0 0 (fun _ => False) := by
  refine q_ofWH (cc := cL_ask) (maxL := 5) (ret := (some .int)) (hh := [(0, 7, 8, 118), (0, 7, 14, 21), (0, 7, 20, 23), (0, 7, 26, 52)]) (by decide) rfl ?_
  intro p e s m args below meth c s₁ B hml htab hv
  obtain ⟨rfl, hC, hW⟩ := hv
  have hx := B.exec
  have hb := B.bytes
  have hr := B.returns
  have hts := atoms_spec (ws := wsL_ask) B.pre
  have hown : s.vm.findClass RL = some m.cls := findClass_of_methodNamed B.named
  have hlocks := B.notSynchronized
  have hS : va_S (fun _ => False) s.heap s.heap [] := va_S.rf
  have hl := lv_entry ([.ref (ad 0 0), .int (nI 6), .int (nI s0), .int (bq)]) (n := 5) (Nat.le_of_ble_eq_true rfl)
  rw [lg_entry_eq]
  generalize (lg_sl ([.ref (ad 0 0), .int (nI 6), .int (nI s0), .int (bq)]) ++ List.replicate (5 - (lg_sl ([.ref (ad 0 0), .int (nI 6), .int (nI s0), .int (bq)])).length) Slot.unset).toArray = ls at hl ⊢
  have hl : lv_has ls 5 [(0, .ref (ad 0 0)), (1, .int (nI 6)), (2, .int (nI s0)), (3, .int (bq))] := hl
  refine lv_aload_n hx hb dL_ask_0 rfl (lv_at hl 0 rfl) ?_
  refine lv_iload_n hx hb dL_ask_1 rfl (lv_at hl 1 rfl) ?_
  refine lv_iload_n hx hb dL_ask_2 rfl (lv_at hl 2 rfl) ?_
  refine lv_iload_n hx hb dL_ask_3 rfl (lv_at hl 3 rfl) ?_
  refine q_v (va_runS (As := [.ref (ad 0 0), .int (nI 6), .int (nI s0), .int (bq)]) (rest := []) ⟨hx, hb, hml, hown, hts⟩ (a_kept l G es A σ ad hF s0 hs0 bq) (va_cwS 4 hts gL_ask_L_asked rfl rfl rfl (by decide +kernel) ⟨Nat.le_of_ble_eq_true rfl, Nat.le_of_ble_eq_true rfl⟩) ⟨qR.blind, qR.pre hC hW⟩ rfl rfl hl.1 rfl (lv_room (Nat.le_of_ble_eq_true rfl)) dL_ask_4 ⟨Nat.le_of_ble_eq_true rfl, Nat.le_of_ble_eq_true rfl⟩) hS (fun _ h => h.elim) (fun locs hS => ?_)
  exact W.iret hx hb hr (fun t ht _ => ⟨rfl, ht⟩) hS.2.2 dL_ask_7
set_option maxHeartbeats 4000000 in
set_option maxRecDepth 100000 in
theorem a_dropped (l : Launch) (G : QG) (es : Nat) (A : Nat → Prop) (σ ad : QSt) (hF : qWF σ) (s0 : Nat) (hs0 : s0 < 4) (bq : Int32) : Met l yL_asked wsL_asked ({ frames := 4, cells := 0, slots := 0, locals := 88 } : Room) (qR G es A σ ad [.ref (ad 0 0), .int (nI 7), .int (nI s0), .int (bq)]) (qPV (some (.int (nI (qsum (fun l => qB (σ 64 l = s0 ∧ σ 69 l = 100)) (σ 0 0)))))) 0 0 (fun _ => False) := by
  refine Met.ofW (cc := cL_asked) (maxL := 4) (ret := (some .int)) (by decide) rfl ?_
  intro p e s m args below meth c s₁ B hml hv
  obtain ⟨rfl, hC, hW⟩ := hv
  have hx := B.exec
  have hb := B.bytes
  have hr := B.returns
  have hts := atoms_spec (ws := wsL_asked) B.pre
  have hown : s.vm.findClass RL = some m.cls := findClass_of_methodNamed B.named
  have hlocks := B.notSynchronized
  have hS : va_S (fun _ => False) s.heap s.heap [] := va_S.rf
  have hl := lv_entry ([.ref (ad 0 0), .int (nI 7), .int (nI s0), .int (bq)]) (n := 4) (Nat.le_of_ble_eq_true rfl)
  rw [lg_entry_eq]
  generalize (lg_sl ([.ref (ad 0 0), .int (nI 7), .int (nI s0), .int (bq)]) ++ List.replicate (4 - (lg_sl ([.ref (ad 0 0), .int (nI 7), .int (nI s0), .int (bq)])).length) Slot.unset).toArray = ls at hl ⊢
  have hl : lv_has ls 4 [(0, .ref (ad 0 0)), (1, .int (nI 7)), (2, .int (nI s0)), (3, .int (bq))] := hl
  refine lv_iload_n hx hb dL_asked_0 rfl (lv_at hl 1 rfl) ?_
  refine lv_tableIn (off := 127) (tgt := 128) hx hb dL_asked_1 (by decide +kernel) (by decide +kernel) (by decide +kernel) (by decide) ?_
  refine lv_aload_n hx hb dL_asked_128 rfl (lv_at hl 0 rfl) ?_
  refine lv_iload_n hx hb dL_asked_129 rfl (lv_at hl 2 rfl) ?_
  refine q_v (va_runV (As := [.int (nI s0)]) (rest := []) ⟨hx, hb, hml, hown, hts⟩ (m_dropped l G es A σ ad hF s0 hs0) (cwV 1 hts gL_asked_X7_dropped rfl rfl rfl (by decide +kernel) ⟨Nat.le_of_ble_eq_true rfl, Nat.le_of_ble_eq_true rfl⟩) ⟨qR.blind, qrecv hC (hW.to qLV0) rfl, qR.pre hC hW⟩ rfl rfl hl.1 rfl (lv_room (Nat.le_of_ble_eq_true rfl)) dL_asked_130 ⟨Nat.le_of_ble_eq_true rfl, Nat.le_of_ble_eq_true rfl⟩) hS (fun _ h => h.elim) (fun locs hS => ?_)
  exact W.iret hx hb hr (fun t ht _ => ⟨rfl, ht⟩) hS.2.2 dL_asked_133
set_option maxHeartbeats 4000000 in
set_option maxRecDepth 100000 in
theorem b_dropped (l : Launch) (G : QG) (es : Nat) (A : Nat → Prop) (σ ad : QSt) (hF : qWF σ) (s0 : Nat) (hs0 : s0 < 4) (bq : Int32) : Met l yL_ask wsL_ask ({ frames := 5, cells := 0, slots := 0, locals := 111 } : Room) (qR G es A σ ad [.ref (ad 0 0), .int (nI 7), .int (nI s0), .int (bq)]) (qPV (some (.int (nI (qsum (fun l => qB (σ 64 l = s0 ∧ σ 69 l = 100)) (σ 0 0)))))) 0 0 (fun _ => False) := by
  refine q_ofWH (cc := cL_ask) (maxL := 5) (ret := (some .int)) (hh := [(0, 7, 8, 118), (0, 7, 14, 21), (0, 7, 20, 23), (0, 7, 26, 52)]) (by decide) rfl ?_
  intro p e s m args below meth c s₁ B hml htab hv
  obtain ⟨rfl, hC, hW⟩ := hv
  have hx := B.exec
  have hb := B.bytes
  have hr := B.returns
  have hts := atoms_spec (ws := wsL_ask) B.pre
  have hown : s.vm.findClass RL = some m.cls := findClass_of_methodNamed B.named
  have hlocks := B.notSynchronized
  have hS : va_S (fun _ => False) s.heap s.heap [] := va_S.rf
  have hl := lv_entry ([.ref (ad 0 0), .int (nI 7), .int (nI s0), .int (bq)]) (n := 5) (Nat.le_of_ble_eq_true rfl)
  rw [lg_entry_eq]
  generalize (lg_sl ([.ref (ad 0 0), .int (nI 7), .int (nI s0), .int (bq)]) ++ List.replicate (5 - (lg_sl ([.ref (ad 0 0), .int (nI 7), .int (nI s0), .int (bq)])).length) Slot.unset).toArray = ls at hl ⊢
  have hl : lv_has ls 5 [(0, .ref (ad 0 0)), (1, .int (nI 7)), (2, .int (nI s0)), (3, .int (bq))] := hl
  refine lv_aload_n hx hb dL_ask_0 rfl (lv_at hl 0 rfl) ?_
  refine lv_iload_n hx hb dL_ask_1 rfl (lv_at hl 1 rfl) ?_
  refine lv_iload_n hx hb dL_ask_2 rfl (lv_at hl 2 rfl) ?_
  refine lv_iload_n hx hb dL_ask_3 rfl (lv_at hl 3 rfl) ?_
  refine q_v (va_runS (As := [.ref (ad 0 0), .int (nI 7), .int (nI s0), .int (bq)]) (rest := []) ⟨hx, hb, hml, hown, hts⟩ (a_dropped l G es A σ ad hF s0 hs0 bq) (va_cwS 4 hts gL_ask_L_asked rfl rfl rfl (by decide +kernel) ⟨Nat.le_of_ble_eq_true rfl, Nat.le_of_ble_eq_true rfl⟩) ⟨qR.blind, qR.pre hC hW⟩ rfl rfl hl.1 rfl (lv_room (Nat.le_of_ble_eq_true rfl)) dL_ask_4 ⟨Nat.le_of_ble_eq_true rfl, Nat.le_of_ble_eq_true rfl⟩) hS (fun _ h => h.elim) (fun locs hS => ?_)
  exact W.iret hx hb hr (fun t ht _ => ⟨rfl, ht⟩) hS.2.2 dL_ask_7
set_option maxHeartbeats 4000000 in
set_option maxRecDepth 100000 in
theorem a_alertState (l : Launch) (G : QG) (es : Nat) (A : Nat → Prop) (σ ad : QSt) (hF : qWF σ) (i : Nat) (hi : i < σ 0 2) (bq : Int32) : Met l yL_asked wsL_asked ({ frames := 5, cells := 0, slots := 0, locals := 106 } : Room) (qR G es A σ ad [.ref (ad 0 0), .int (nI 9), .int (nI i), .int (bq)]) (qPV (some (.int (nI (σ 131 i))))) 0 0 (fun _ => False) := by
  refine Met.ofW (cc := cL_asked) (maxL := 4) (ret := (some .int)) (by decide) rfl ?_
  intro p e s m args below meth c s₁ B hml hv
  obtain ⟨rfl, hC, hW⟩ := hv
  have hx := B.exec
  have hb := B.bytes
  have hr := B.returns
  have hts := atoms_spec (ws := wsL_asked) B.pre
  have hown : s.vm.findClass RL = some m.cls := findClass_of_methodNamed B.named
  have hlocks := B.notSynchronized
  have hS : va_S (fun _ => False) s.heap s.heap [] := va_S.rf
  have hl := lv_entry ([.ref (ad 0 0), .int (nI 9), .int (nI i), .int (bq)]) (n := 4) (Nat.le_of_ble_eq_true rfl)
  rw [lg_entry_eq]
  generalize (lg_sl ([.ref (ad 0 0), .int (nI 9), .int (nI i), .int (bq)]) ++ List.replicate (4 - (lg_sl ([.ref (ad 0 0), .int (nI 9), .int (nI i), .int (bq)])).length) Slot.unset).toArray = ls at hl ⊢
  have hl : lv_has ls 4 [(0, .ref (ad 0 0)), (1, .int (nI 9)), (2, .int (nI i)), (3, .int (bq))] := hl
  refine lv_iload_n hx hb dL_asked_0 rfl (lv_at hl 1 rfl) ?_
  refine lv_tableIn (off := 139) (tgt := 140) hx hb dL_asked_1 (by decide +kernel) (by decide +kernel) (by decide +kernel) (by decide) ?_
  refine lv_aload_n hx hb dL_asked_140 rfl (lv_at hl 0 rfl) ?_
  refine lv_iload_n hx hb dL_asked_141 rfl (lv_at hl 2 rfl) ?_
  refine q_v (va_runV (As := [.int (nI i)]) (rest := []) ⟨hx, hb, hml, hown, hts⟩ (m_alertState l G es A σ ad hF i hi) (cwV 1 hts gL_asked_X7_alertState rfl rfl rfl (by decide +kernel) ⟨Nat.le_of_ble_eq_true rfl, Nat.le_of_ble_eq_true rfl⟩) ⟨qR.blind, qrecv hC (hW.to qLV0) rfl, qR.pre hC hW⟩ rfl rfl hl.1 rfl (lv_room (Nat.le_of_ble_eq_true rfl)) dL_asked_142 ⟨Nat.le_of_ble_eq_true rfl, Nat.le_of_ble_eq_true rfl⟩) hS (fun _ h => h.elim) (fun locs hS => ?_)
  exact W.iret hx hb hr (fun t ht _ => ⟨rfl, ht⟩) hS.2.2 dL_asked_145
set_option maxHeartbeats 4000000 in
set_option maxRecDepth 100000 in
theorem b_alertState (l : Launch) (G : QG) (es : Nat) (A : Nat → Prop) (σ ad : QSt) (hF : qWF σ) (i : Nat) (hi : i < σ 0 2) (bq : Int32) : Met l yL_ask wsL_ask ({ frames := 6, cells := 0, slots := 0, locals := 129 } : Room) (qR G es A σ ad [.ref (ad 0 0), .int (nI 9), .int (nI i), .int (bq)]) (qPV (some (.int (nI (σ 131 i))))) 0 0 (fun _ => False) := by
  refine q_ofWH (cc := cL_ask) (maxL := 5) (ret := (some .int)) (hh := [(0, 7, 8, 118), (0, 7, 14, 21), (0, 7, 20, 23), (0, 7, 26, 52)]) (by decide) rfl ?_
  intro p e s m args below meth c s₁ B hml htab hv
  obtain ⟨rfl, hC, hW⟩ := hv
  have hx := B.exec
  have hb := B.bytes
  have hr := B.returns
  have hts := atoms_spec (ws := wsL_ask) B.pre
  have hown : s.vm.findClass RL = some m.cls := findClass_of_methodNamed B.named
  have hlocks := B.notSynchronized
  have hS : va_S (fun _ => False) s.heap s.heap [] := va_S.rf
  have hl := lv_entry ([.ref (ad 0 0), .int (nI 9), .int (nI i), .int (bq)]) (n := 5) (Nat.le_of_ble_eq_true rfl)
  rw [lg_entry_eq]
  generalize (lg_sl ([.ref (ad 0 0), .int (nI 9), .int (nI i), .int (bq)]) ++ List.replicate (5 - (lg_sl ([.ref (ad 0 0), .int (nI 9), .int (nI i), .int (bq)])).length) Slot.unset).toArray = ls at hl ⊢
  have hl : lv_has ls 5 [(0, .ref (ad 0 0)), (1, .int (nI 9)), (2, .int (nI i)), (3, .int (bq))] := hl
  refine lv_aload_n hx hb dL_ask_0 rfl (lv_at hl 0 rfl) ?_
  refine lv_iload_n hx hb dL_ask_1 rfl (lv_at hl 1 rfl) ?_
  refine lv_iload_n hx hb dL_ask_2 rfl (lv_at hl 2 rfl) ?_
  refine lv_iload_n hx hb dL_ask_3 rfl (lv_at hl 3 rfl) ?_
  refine q_v (va_runS (As := [.ref (ad 0 0), .int (nI 9), .int (nI i), .int (bq)]) (rest := []) ⟨hx, hb, hml, hown, hts⟩ (a_alertState l G es A σ ad hF i hi bq) (va_cwS 4 hts gL_ask_L_asked rfl rfl rfl (by decide +kernel) ⟨Nat.le_of_ble_eq_true rfl, Nat.le_of_ble_eq_true rfl⟩) ⟨qR.blind, qR.pre hC hW⟩ rfl rfl hl.1 rfl (lv_room (Nat.le_of_ble_eq_true rfl)) dL_ask_4 ⟨Nat.le_of_ble_eq_true rfl, Nat.le_of_ble_eq_true rfl⟩) hS (fun _ h => h.elim) (fun locs hS => ?_)
  exact W.iret hx hb hr (fun t ht _ => ⟨rfl, ht⟩) hS.2.2 dL_ask_7
set_option maxHeartbeats 4000000 in
set_option maxRecDepth 100000 in
theorem a_counted (l : Launch) (G : QG) (es : Nat) (A : Nat → Prop) (σ ad : QSt) (hF : qWF σ) (i : Nat) (hi : i < σ 0 2) (bq : Int32) : Met l yL_asked wsL_asked ({ frames := 5, cells := 0, slots := 0, locals := 106 } : Room) (qR G es A σ ad [.ref (ad 0 0), .int (nI 10), .int (nI i), .int (bq)]) (qPV (some (.int (nI (σ 132 i))))) 0 0 (fun _ => False) := by
  refine Met.ofW (cc := cL_asked) (maxL := 4) (ret := (some .int)) (by decide) rfl ?_
  intro p e s m args below meth c s₁ B hml hv
  obtain ⟨rfl, hC, hW⟩ := hv
  have hx := B.exec
  have hb := B.bytes
  have hr := B.returns
  have hts := atoms_spec (ws := wsL_asked) B.pre
  have hown : s.vm.findClass RL = some m.cls := findClass_of_methodNamed B.named
  have hlocks := B.notSynchronized
  have hS : va_S (fun _ => False) s.heap s.heap [] := va_S.rf
  have hl := lv_entry ([.ref (ad 0 0), .int (nI 10), .int (nI i), .int (bq)]) (n := 4) (Nat.le_of_ble_eq_true rfl)
  rw [lg_entry_eq]
  generalize (lg_sl ([.ref (ad 0 0), .int (nI 10), .int (nI i), .int (bq)]) ++ List.replicate (4 - (lg_sl ([.ref (ad 0 0), .int (nI 10), .int (nI i), .int (bq)])).length) Slot.unset).toArray = ls at hl ⊢
  have hl : lv_has ls 4 [(0, .ref (ad 0 0)), (1, .int (nI 10)), (2, .int (nI i)), (3, .int (bq))] := hl
  refine lv_iload_n hx hb dL_asked_0 rfl (lv_at hl 1 rfl) ?_
  refine lv_tableIn (off := 145) (tgt := 146) hx hb dL_asked_1 (by decide +kernel) (by decide +kernel) (by decide +kernel) (by decide) ?_
  refine lv_aload_n hx hb dL_asked_146 rfl (lv_at hl 0 rfl) ?_
  refine lv_iload_n hx hb dL_asked_147 rfl (lv_at hl 2 rfl) ?_
  refine q_v (va_runV (As := [.int (nI i)]) (rest := []) ⟨hx, hb, hml, hown, hts⟩ (m_counted l G es A σ ad hF i hi) (cwV 1 hts gL_asked_X7_counted rfl rfl rfl (by decide +kernel) ⟨Nat.le_of_ble_eq_true rfl, Nat.le_of_ble_eq_true rfl⟩) ⟨qR.blind, qrecv hC (hW.to qLV0) rfl, qR.pre hC hW⟩ rfl rfl hl.1 rfl (lv_room (Nat.le_of_ble_eq_true rfl)) dL_asked_148 ⟨Nat.le_of_ble_eq_true rfl, Nat.le_of_ble_eq_true rfl⟩) hS (fun _ h => h.elim) (fun locs hS => ?_)
  exact W.iret hx hb hr (fun t ht _ => ⟨rfl, ht⟩) hS.2.2 dL_asked_151
set_option maxHeartbeats 4000000 in
set_option maxRecDepth 100000 in
theorem b_counted (l : Launch) (G : QG) (es : Nat) (A : Nat → Prop) (σ ad : QSt) (hF : qWF σ) (i : Nat) (hi : i < σ 0 2) (bq : Int32) : Met l yL_ask wsL_ask ({ frames := 6, cells := 0, slots := 0, locals := 129 } : Room) (qR G es A σ ad [.ref (ad 0 0), .int (nI 10), .int (nI i), .int (bq)]) (qPV (some (.int (nI (σ 132 i))))) 0 0 (fun _ => False) := by
  refine q_ofWH (cc := cL_ask) (maxL := 5) (ret := (some .int)) (hh := [(0, 7, 8, 118), (0, 7, 14, 21), (0, 7, 20, 23), (0, 7, 26, 52)]) (by decide) rfl ?_
  intro p e s m args below meth c s₁ B hml htab hv
  obtain ⟨rfl, hC, hW⟩ := hv
  have hx := B.exec
  have hb := B.bytes
  have hr := B.returns
  have hts := atoms_spec (ws := wsL_ask) B.pre
  have hown : s.vm.findClass RL = some m.cls := findClass_of_methodNamed B.named
  have hlocks := B.notSynchronized
  have hS : va_S (fun _ => False) s.heap s.heap [] := va_S.rf
  have hl := lv_entry ([.ref (ad 0 0), .int (nI 10), .int (nI i), .int (bq)]) (n := 5) (Nat.le_of_ble_eq_true rfl)
  rw [lg_entry_eq]
  generalize (lg_sl ([.ref (ad 0 0), .int (nI 10), .int (nI i), .int (bq)]) ++ List.replicate (5 - (lg_sl ([.ref (ad 0 0), .int (nI 10), .int (nI i), .int (bq)])).length) Slot.unset).toArray = ls at hl ⊢
  have hl : lv_has ls 5 [(0, .ref (ad 0 0)), (1, .int (nI 10)), (2, .int (nI i)), (3, .int (bq))] := hl
  refine lv_aload_n hx hb dL_ask_0 rfl (lv_at hl 0 rfl) ?_
  refine lv_iload_n hx hb dL_ask_1 rfl (lv_at hl 1 rfl) ?_
  refine lv_iload_n hx hb dL_ask_2 rfl (lv_at hl 2 rfl) ?_
  refine lv_iload_n hx hb dL_ask_3 rfl (lv_at hl 3 rfl) ?_
  refine q_v (va_runS (As := [.ref (ad 0 0), .int (nI 10), .int (nI i), .int (bq)]) (rest := []) ⟨hx, hb, hml, hown, hts⟩ (a_counted l G es A σ ad hF i hi bq) (va_cwS 4 hts gL_ask_L_asked rfl rfl rfl (by decide +kernel) ⟨Nat.le_of_ble_eq_true rfl, Nat.le_of_ble_eq_true rfl⟩) ⟨qR.blind, qR.pre hC hW⟩ rfl rfl hl.1 rfl (lv_room (Nat.le_of_ble_eq_true rfl)) dL_ask_4 ⟨Nat.le_of_ble_eq_true rfl, Nat.le_of_ble_eq_true rfl⟩) hS (fun _ h => h.elim) (fun locs hS => ?_)
  exact W.iret hx hb hr (fun t ht _ => ⟨rfl, ht⟩) hS.2.2 dL_ask_7
set_option maxHeartbeats 4000000 in
set_option maxRecDepth 100000 in
theorem a_countedAnew (l : Launch) (G : QG) (es : Nat) (A : Nat → Prop) (σ ad : QSt) (hF : qWF σ) (i : Nat) (hi : i < σ 0 2) (bq : Int32) : Met l yL_asked wsL_asked ({ frames := 5, cells := 0, slots := 0, locals := 108 } : Room) (qR G es A σ ad [.ref (ad 0 0), .int (nI 11), .int (nI i), .int (bq)]) (qPV (some (.int (nI (qcnt σ i))))) 0 0 (fun _ => False) := by
  refine Met.ofW (cc := cL_asked) (maxL := 4) (ret := (some .int)) (by decide) rfl ?_
  intro p e s m args below meth c s₁ B hml hv
  obtain ⟨rfl, hC, hW⟩ := hv
  have hx := B.exec
  have hb := B.bytes
  have hr := B.returns
  have hts := atoms_spec (ws := wsL_asked) B.pre
  have hown : s.vm.findClass RL = some m.cls := findClass_of_methodNamed B.named
  have hlocks := B.notSynchronized
  have hS : va_S (fun _ => False) s.heap s.heap [] := va_S.rf
  have hl := lv_entry ([.ref (ad 0 0), .int (nI 11), .int (nI i), .int (bq)]) (n := 4) (Nat.le_of_ble_eq_true rfl)
  rw [lg_entry_eq]
  generalize (lg_sl ([.ref (ad 0 0), .int (nI 11), .int (nI i), .int (bq)]) ++ List.replicate (4 - (lg_sl ([.ref (ad 0 0), .int (nI 11), .int (nI i), .int (bq)])).length) Slot.unset).toArray = ls at hl ⊢
  have hl : lv_has ls 4 [(0, .ref (ad 0 0)), (1, .int (nI 11)), (2, .int (nI i)), (3, .int (bq))] := hl
  refine lv_iload_n hx hb dL_asked_0 rfl (lv_at hl 1 rfl) ?_
  refine lv_tableIn (off := 151) (tgt := 152) hx hb dL_asked_1 (by decide +kernel) (by decide +kernel) (by decide +kernel) (by decide) ?_
  refine lv_aload_n hx hb dL_asked_152 rfl (lv_at hl 0 rfl) ?_
  refine lv_iload_n hx hb dL_asked_153 rfl (lv_at hl 2 rfl) ?_
  refine q_v (va_runV (As := [.int (nI i)]) (rest := []) ⟨hx, hb, hml, hown, hts⟩ (m_countedAnew l G es A σ ad hF i hi) (cwV 1 hts gL_asked_X7_countedAnew rfl rfl rfl (by decide +kernel) ⟨Nat.le_of_ble_eq_true rfl, Nat.le_of_ble_eq_true rfl⟩) ⟨qR.blind, qrecv hC (hW.to qLV0) rfl, qR.pre hC hW⟩ rfl rfl hl.1 rfl (lv_room (Nat.le_of_ble_eq_true rfl)) dL_asked_154 ⟨Nat.le_of_ble_eq_true rfl, Nat.le_of_ble_eq_true rfl⟩) hS (fun _ h => h.elim) (fun locs hS => ?_)
  exact W.iret hx hb hr (fun t ht _ => ⟨rfl, ht⟩) hS.2.2 dL_asked_157
set_option maxHeartbeats 4000000 in
set_option maxRecDepth 100000 in
theorem b_countedAnew (l : Launch) (G : QG) (es : Nat) (A : Nat → Prop) (σ ad : QSt) (hF : qWF σ) (i : Nat) (hi : i < σ 0 2) (bq : Int32) : Met l yL_ask wsL_ask ({ frames := 6, cells := 0, slots := 0, locals := 131 } : Room) (qR G es A σ ad [.ref (ad 0 0), .int (nI 11), .int (nI i), .int (bq)]) (qPV (some (.int (nI (qcnt σ i))))) 0 0 (fun _ => False) := by
  refine q_ofWH (cc := cL_ask) (maxL := 5) (ret := (some .int)) (hh := [(0, 7, 8, 118), (0, 7, 14, 21), (0, 7, 20, 23), (0, 7, 26, 52)]) (by decide) rfl ?_
  intro p e s m args below meth c s₁ B hml htab hv
  obtain ⟨rfl, hC, hW⟩ := hv
  have hx := B.exec
  have hb := B.bytes
  have hr := B.returns
  have hts := atoms_spec (ws := wsL_ask) B.pre
  have hown : s.vm.findClass RL = some m.cls := findClass_of_methodNamed B.named
  have hlocks := B.notSynchronized
  have hS : va_S (fun _ => False) s.heap s.heap [] := va_S.rf
  have hl := lv_entry ([.ref (ad 0 0), .int (nI 11), .int (nI i), .int (bq)]) (n := 5) (Nat.le_of_ble_eq_true rfl)
  rw [lg_entry_eq]
  generalize (lg_sl ([.ref (ad 0 0), .int (nI 11), .int (nI i), .int (bq)]) ++ List.replicate (5 - (lg_sl ([.ref (ad 0 0), .int (nI 11), .int (nI i), .int (bq)])).length) Slot.unset).toArray = ls at hl ⊢
  have hl : lv_has ls 5 [(0, .ref (ad 0 0)), (1, .int (nI 11)), (2, .int (nI i)), (3, .int (bq))] := hl
  refine lv_aload_n hx hb dL_ask_0 rfl (lv_at hl 0 rfl) ?_
  refine lv_iload_n hx hb dL_ask_1 rfl (lv_at hl 1 rfl) ?_
  refine lv_iload_n hx hb dL_ask_2 rfl (lv_at hl 2 rfl) ?_
  refine lv_iload_n hx hb dL_ask_3 rfl (lv_at hl 3 rfl) ?_
  refine q_v (va_runS (As := [.ref (ad 0 0), .int (nI 11), .int (nI i), .int (bq)]) (rest := []) ⟨hx, hb, hml, hown, hts⟩ (a_countedAnew l G es A σ ad hF i hi bq) (va_cwS 4 hts gL_ask_L_asked rfl rfl rfl (by decide +kernel) ⟨Nat.le_of_ble_eq_true rfl, Nat.le_of_ble_eq_true rfl⟩) ⟨qR.blind, qR.pre hC hW⟩ rfl rfl hl.1 rfl (lv_room (Nat.le_of_ble_eq_true rfl)) dL_ask_4 ⟨Nat.le_of_ble_eq_true rfl, Nat.le_of_ble_eq_true rfl⟩) hS (fun _ h => h.elim) (fun locs hS => ?_)
  exact W.iret hx hb hr (fun t ht _ => ⟨rfl, ht⟩) hS.2.2 dL_ask_7
set_option maxHeartbeats 4000000 in
set_option maxRecDepth 100000 in
theorem a_heldFor (l : Launch) (G : QG) (es : Nat) (A : Nat → Prop) (σ ad : QSt) (hF : qWF σ) (i : Nat) (hi : i < σ 0 2) (bq : Int32) : Met l yL_asked wsL_asked ({ frames := 5, cells := 0, slots := 0, locals := 106 } : Room) (qR G es A σ ad [.ref (ad 0 0), .int (nI 12), .int (nI i), .int (bq)]) (qPV (some (.int (nI (σ 133 i))))) 0 0 (fun _ => False) := by
  refine Met.ofW (cc := cL_asked) (maxL := 4) (ret := (some .int)) (by decide) rfl ?_
  intro p e s m args below meth c s₁ B hml hv
  obtain ⟨rfl, hC, hW⟩ := hv
  have hx := B.exec
  have hb := B.bytes
  have hr := B.returns
  have hts := atoms_spec (ws := wsL_asked) B.pre
  have hown : s.vm.findClass RL = some m.cls := findClass_of_methodNamed B.named
  have hlocks := B.notSynchronized
  have hS : va_S (fun _ => False) s.heap s.heap [] := va_S.rf
  have hl := lv_entry ([.ref (ad 0 0), .int (nI 12), .int (nI i), .int (bq)]) (n := 4) (Nat.le_of_ble_eq_true rfl)
  rw [lg_entry_eq]
  generalize (lg_sl ([.ref (ad 0 0), .int (nI 12), .int (nI i), .int (bq)]) ++ List.replicate (4 - (lg_sl ([.ref (ad 0 0), .int (nI 12), .int (nI i), .int (bq)])).length) Slot.unset).toArray = ls at hl ⊢
  have hl : lv_has ls 4 [(0, .ref (ad 0 0)), (1, .int (nI 12)), (2, .int (nI i)), (3, .int (bq))] := hl
  refine lv_iload_n hx hb dL_asked_0 rfl (lv_at hl 1 rfl) ?_
  refine lv_tableIn (off := 157) (tgt := 158) hx hb dL_asked_1 (by decide +kernel) (by decide +kernel) (by decide +kernel) (by decide) ?_
  refine lv_aload_n hx hb dL_asked_158 rfl (lv_at hl 0 rfl) ?_
  refine lv_iload_n hx hb dL_asked_159 rfl (lv_at hl 2 rfl) ?_
  refine q_v (va_runV (As := [.int (nI i)]) (rest := []) ⟨hx, hb, hml, hown, hts⟩ (m_heldFor l G es A σ ad hF i hi) (cwV 1 hts gL_asked_X7_heldFor rfl rfl rfl (by decide +kernel) ⟨Nat.le_of_ble_eq_true rfl, Nat.le_of_ble_eq_true rfl⟩) ⟨qR.blind, qrecv hC (hW.to qLV0) rfl, qR.pre hC hW⟩ rfl rfl hl.1 rfl (lv_room (Nat.le_of_ble_eq_true rfl)) dL_asked_160 ⟨Nat.le_of_ble_eq_true rfl, Nat.le_of_ble_eq_true rfl⟩) hS (fun _ h => h.elim) (fun locs hS => ?_)
  exact W.iret hx hb hr (fun t ht _ => ⟨rfl, ht⟩) hS.2.2 dL_asked_163
set_option maxHeartbeats 4000000 in
set_option maxRecDepth 100000 in
theorem b_heldFor (l : Launch) (G : QG) (es : Nat) (A : Nat → Prop) (σ ad : QSt) (hF : qWF σ) (i : Nat) (hi : i < σ 0 2) (bq : Int32) : Met l yL_ask wsL_ask ({ frames := 6, cells := 0, slots := 0, locals := 129 } : Room) (qR G es A σ ad [.ref (ad 0 0), .int (nI 12), .int (nI i), .int (bq)]) (qPV (some (.int (nI (σ 133 i))))) 0 0 (fun _ => False) := by
  refine q_ofWH (cc := cL_ask) (maxL := 5) (ret := (some .int)) (hh := [(0, 7, 8, 118), (0, 7, 14, 21), (0, 7, 20, 23), (0, 7, 26, 52)]) (by decide) rfl ?_
  intro p e s m args below meth c s₁ B hml htab hv
  obtain ⟨rfl, hC, hW⟩ := hv
  have hx := B.exec
  have hb := B.bytes
  have hr := B.returns
  have hts := atoms_spec (ws := wsL_ask) B.pre
  have hown : s.vm.findClass RL = some m.cls := findClass_of_methodNamed B.named
  have hlocks := B.notSynchronized
  have hS : va_S (fun _ => False) s.heap s.heap [] := va_S.rf
  have hl := lv_entry ([.ref (ad 0 0), .int (nI 12), .int (nI i), .int (bq)]) (n := 5) (Nat.le_of_ble_eq_true rfl)
  rw [lg_entry_eq]
  generalize (lg_sl ([.ref (ad 0 0), .int (nI 12), .int (nI i), .int (bq)]) ++ List.replicate (5 - (lg_sl ([.ref (ad 0 0), .int (nI 12), .int (nI i), .int (bq)])).length) Slot.unset).toArray = ls at hl ⊢
  have hl : lv_has ls 5 [(0, .ref (ad 0 0)), (1, .int (nI 12)), (2, .int (nI i)), (3, .int (bq))] := hl
  refine lv_aload_n hx hb dL_ask_0 rfl (lv_at hl 0 rfl) ?_
  refine lv_iload_n hx hb dL_ask_1 rfl (lv_at hl 1 rfl) ?_
  refine lv_iload_n hx hb dL_ask_2 rfl (lv_at hl 2 rfl) ?_
  refine lv_iload_n hx hb dL_ask_3 rfl (lv_at hl 3 rfl) ?_
  refine q_v (va_runS (As := [.ref (ad 0 0), .int (nI 12), .int (nI i), .int (bq)]) (rest := []) ⟨hx, hb, hml, hown, hts⟩ (a_heldFor l G es A σ ad hF i hi bq) (va_cwS 4 hts gL_ask_L_asked rfl rfl rfl (by decide +kernel) ⟨Nat.le_of_ble_eq_true rfl, Nat.le_of_ble_eq_true rfl⟩) ⟨qR.blind, qR.pre hC hW⟩ rfl rfl hl.1 rfl (lv_room (Nat.le_of_ble_eq_true rfl)) dL_ask_4 ⟨Nat.le_of_ble_eq_true rfl, Nat.le_of_ble_eq_true rfl⟩) hS (fun _ h => h.elim) (fun locs hS => ?_)
  exact W.iret hx hb hr (fun t ht _ => ⟨rfl, ht⟩) hS.2.2 dL_ask_7
set_option maxHeartbeats 4000000 in
set_option maxRecDepth 100000 in
theorem a_alertOf (l : Launch) (G : QG) (es : Nat) (A : Nat → Prop) (σ ad : QSt) (hF : qWF σ) (i : Nat) (hi : i < σ 0 3) (bq : Int32) : Met l yL_asked wsL_asked ({ frames := 5, cells := 0, slots := 0, locals := 106 } : Room) (qR G es A σ ad [.ref (ad 0 0), .int (nI 13), .int (nI i), .int (bq)]) (qPV (some (.int (nI (σ 160 i))))) 0 0 (fun _ => False) := by
  refine Met.ofW (cc := cL_asked) (maxL := 4) (ret := (some .int)) (by decide) rfl ?_
  intro p e s m args below meth c s₁ B hml hv
  obtain ⟨rfl, hC, hW⟩ := hv
  have hx := B.exec
  have hb := B.bytes
  have hr := B.returns
  have hts := atoms_spec (ws := wsL_asked) B.pre
  have hown : s.vm.findClass RL = some m.cls := findClass_of_methodNamed B.named
  have hlocks := B.notSynchronized
  have hS : va_S (fun _ => False) s.heap s.heap [] := va_S.rf
  have hl := lv_entry ([.ref (ad 0 0), .int (nI 13), .int (nI i), .int (bq)]) (n := 4) (Nat.le_of_ble_eq_true rfl)
  rw [lg_entry_eq]
  generalize (lg_sl ([.ref (ad 0 0), .int (nI 13), .int (nI i), .int (bq)]) ++ List.replicate (4 - (lg_sl ([.ref (ad 0 0), .int (nI 13), .int (nI i), .int (bq)])).length) Slot.unset).toArray = ls at hl ⊢
  have hl : lv_has ls 4 [(0, .ref (ad 0 0)), (1, .int (nI 13)), (2, .int (nI i)), (3, .int (bq))] := hl
  refine lv_iload_n hx hb dL_asked_0 rfl (lv_at hl 1 rfl) ?_
  refine lv_tableIn (off := 163) (tgt := 164) hx hb dL_asked_1 (by decide +kernel) (by decide +kernel) (by decide +kernel) (by decide) ?_
  refine lv_aload_n hx hb dL_asked_164 rfl (lv_at hl 0 rfl) ?_
  refine lv_iload_n hx hb dL_asked_165 rfl (lv_at hl 2 rfl) ?_
  refine q_v (va_runV (As := [.int (nI i)]) (rest := []) ⟨hx, hb, hml, hown, hts⟩ (m_alertOf l G es A σ ad hF i hi) (cwV 1 hts gL_asked_X7_alertOf rfl rfl rfl (by decide +kernel) ⟨Nat.le_of_ble_eq_true rfl, Nat.le_of_ble_eq_true rfl⟩) ⟨qR.blind, qrecv hC (hW.to qLV0) rfl, qR.pre hC hW⟩ rfl rfl hl.1 rfl (lv_room (Nat.le_of_ble_eq_true rfl)) dL_asked_166 ⟨Nat.le_of_ble_eq_true rfl, Nat.le_of_ble_eq_true rfl⟩) hS (fun _ h => h.elim) (fun locs hS => ?_)
  exact W.iret hx hb hr (fun t ht _ => ⟨rfl, ht⟩) hS.2.2 dL_asked_169
set_option maxHeartbeats 4000000 in
set_option maxRecDepth 100000 in
theorem b_alertOf (l : Launch) (G : QG) (es : Nat) (A : Nat → Prop) (σ ad : QSt) (hF : qWF σ) (i : Nat) (hi : i < σ 0 3) (bq : Int32) : Met l yL_ask wsL_ask ({ frames := 6, cells := 0, slots := 0, locals := 129 } : Room) (qR G es A σ ad [.ref (ad 0 0), .int (nI 13), .int (nI i), .int (bq)]) (qPV (some (.int (nI (σ 160 i))))) 0 0 (fun _ => False) := by
  refine q_ofWH (cc := cL_ask) (maxL := 5) (ret := (some .int)) (hh := [(0, 7, 8, 118), (0, 7, 14, 21), (0, 7, 20, 23), (0, 7, 26, 52)]) (by decide) rfl ?_
  intro p e s m args below meth c s₁ B hml htab hv
  obtain ⟨rfl, hC, hW⟩ := hv
  have hx := B.exec
  have hb := B.bytes
  have hr := B.returns
  have hts := atoms_spec (ws := wsL_ask) B.pre
  have hown : s.vm.findClass RL = some m.cls := findClass_of_methodNamed B.named
  have hlocks := B.notSynchronized
  have hS : va_S (fun _ => False) s.heap s.heap [] := va_S.rf
  have hl := lv_entry ([.ref (ad 0 0), .int (nI 13), .int (nI i), .int (bq)]) (n := 5) (Nat.le_of_ble_eq_true rfl)
  rw [lg_entry_eq]
  generalize (lg_sl ([.ref (ad 0 0), .int (nI 13), .int (nI i), .int (bq)]) ++ List.replicate (5 - (lg_sl ([.ref (ad 0 0), .int (nI 13), .int (nI i), .int (bq)])).length) Slot.unset).toArray = ls at hl ⊢
  have hl : lv_has ls 5 [(0, .ref (ad 0 0)), (1, .int (nI 13)), (2, .int (nI i)), (3, .int (bq))] := hl
  refine lv_aload_n hx hb dL_ask_0 rfl (lv_at hl 0 rfl) ?_
  refine lv_iload_n hx hb dL_ask_1 rfl (lv_at hl 1 rfl) ?_
  refine lv_iload_n hx hb dL_ask_2 rfl (lv_at hl 2 rfl) ?_
  refine lv_iload_n hx hb dL_ask_3 rfl (lv_at hl 3 rfl) ?_
  refine q_v (va_runS (As := [.ref (ad 0 0), .int (nI 13), .int (nI i), .int (bq)]) (rest := []) ⟨hx, hb, hml, hown, hts⟩ (a_alertOf l G es A σ ad hF i hi bq) (va_cwS 4 hts gL_ask_L_asked rfl rfl rfl (by decide +kernel) ⟨Nat.le_of_ble_eq_true rfl, Nat.le_of_ble_eq_true rfl⟩) ⟨qR.blind, qR.pre hC hW⟩ rfl rfl hl.1 rfl (lv_room (Nat.le_of_ble_eq_true rfl)) dL_ask_4 ⟨Nat.le_of_ble_eq_true rfl, Nat.le_of_ble_eq_true rfl⟩) hS (fun _ h => h.elim) (fun locs hS => ?_)
  exact W.iret hx hb hr (fun t ht _ => ⟨rfl, ht⟩) hS.2.2 dL_ask_7
set_option maxHeartbeats 4000000 in
set_option maxRecDepth 100000 in
theorem a_firedAt (l : Launch) (G : QG) (es : Nat) (A : Nat → Prop) (σ ad : QSt) (hF : qWF σ) (i : Nat) (hi : i < σ 0 3) (bq : Int32) : Met l yL_asked wsL_asked ({ frames := 5, cells := 0, slots := 0, locals := 106 } : Room) (qR G es A σ ad [.ref (ad 0 0), .int (nI 14), .int (nI i), .int (bq)]) (qPV (some (.int (nI (σ 161 i))))) 0 0 (fun _ => False) := by
  refine Met.ofW (cc := cL_asked) (maxL := 4) (ret := (some .int)) (by decide) rfl ?_
  intro p e s m args below meth c s₁ B hml hv
  obtain ⟨rfl, hC, hW⟩ := hv
  have hx := B.exec
  have hb := B.bytes
  have hr := B.returns
  have hts := atoms_spec (ws := wsL_asked) B.pre
  have hown : s.vm.findClass RL = some m.cls := findClass_of_methodNamed B.named
  have hlocks := B.notSynchronized
  have hS : va_S (fun _ => False) s.heap s.heap [] := va_S.rf
  have hl := lv_entry ([.ref (ad 0 0), .int (nI 14), .int (nI i), .int (bq)]) (n := 4) (Nat.le_of_ble_eq_true rfl)
  rw [lg_entry_eq]
  generalize (lg_sl ([.ref (ad 0 0), .int (nI 14), .int (nI i), .int (bq)]) ++ List.replicate (4 - (lg_sl ([.ref (ad 0 0), .int (nI 14), .int (nI i), .int (bq)])).length) Slot.unset).toArray = ls at hl ⊢
  have hl : lv_has ls 4 [(0, .ref (ad 0 0)), (1, .int (nI 14)), (2, .int (nI i)), (3, .int (bq))] := hl
  refine lv_iload_n hx hb dL_asked_0 rfl (lv_at hl 1 rfl) ?_
  refine lv_tableIn (off := 169) (tgt := 170) hx hb dL_asked_1 (by decide +kernel) (by decide +kernel) (by decide +kernel) (by decide) ?_
  refine lv_aload_n hx hb dL_asked_170 rfl (lv_at hl 0 rfl) ?_
  refine lv_iload_n hx hb dL_asked_171 rfl (lv_at hl 2 rfl) ?_
  refine q_v (va_runV (As := [.int (nI i)]) (rest := []) ⟨hx, hb, hml, hown, hts⟩ (m_firedAt l G es A σ ad hF i hi) (cwV 1 hts gL_asked_X7_firedAt rfl rfl rfl (by decide +kernel) ⟨Nat.le_of_ble_eq_true rfl, Nat.le_of_ble_eq_true rfl⟩) ⟨qR.blind, qrecv hC (hW.to qLV0) rfl, qR.pre hC hW⟩ rfl rfl hl.1 rfl (lv_room (Nat.le_of_ble_eq_true rfl)) dL_asked_172 ⟨Nat.le_of_ble_eq_true rfl, Nat.le_of_ble_eq_true rfl⟩) hS (fun _ h => h.elim) (fun locs hS => ?_)
  exact W.iret hx hb hr (fun t ht _ => ⟨rfl, ht⟩) hS.2.2 dL_asked_175
set_option maxHeartbeats 4000000 in
set_option maxRecDepth 100000 in
theorem b_firedAt (l : Launch) (G : QG) (es : Nat) (A : Nat → Prop) (σ ad : QSt) (hF : qWF σ) (i : Nat) (hi : i < σ 0 3) (bq : Int32) : Met l yL_ask wsL_ask ({ frames := 6, cells := 0, slots := 0, locals := 129 } : Room) (qR G es A σ ad [.ref (ad 0 0), .int (nI 14), .int (nI i), .int (bq)]) (qPV (some (.int (nI (σ 161 i))))) 0 0 (fun _ => False) := by
  refine q_ofWH (cc := cL_ask) (maxL := 5) (ret := (some .int)) (hh := [(0, 7, 8, 118), (0, 7, 14, 21), (0, 7, 20, 23), (0, 7, 26, 52)]) (by decide) rfl ?_
  intro p e s m args below meth c s₁ B hml htab hv
  obtain ⟨rfl, hC, hW⟩ := hv
  have hx := B.exec
  have hb := B.bytes
  have hr := B.returns
  have hts := atoms_spec (ws := wsL_ask) B.pre
  have hown : s.vm.findClass RL = some m.cls := findClass_of_methodNamed B.named
  have hlocks := B.notSynchronized
  have hS : va_S (fun _ => False) s.heap s.heap [] := va_S.rf
  have hl := lv_entry ([.ref (ad 0 0), .int (nI 14), .int (nI i), .int (bq)]) (n := 5) (Nat.le_of_ble_eq_true rfl)
  rw [lg_entry_eq]
  generalize (lg_sl ([.ref (ad 0 0), .int (nI 14), .int (nI i), .int (bq)]) ++ List.replicate (5 - (lg_sl ([.ref (ad 0 0), .int (nI 14), .int (nI i), .int (bq)])).length) Slot.unset).toArray = ls at hl ⊢
  have hl : lv_has ls 5 [(0, .ref (ad 0 0)), (1, .int (nI 14)), (2, .int (nI i)), (3, .int (bq))] := hl
  refine lv_aload_n hx hb dL_ask_0 rfl (lv_at hl 0 rfl) ?_
  refine lv_iload_n hx hb dL_ask_1 rfl (lv_at hl 1 rfl) ?_
  refine lv_iload_n hx hb dL_ask_2 rfl (lv_at hl 2 rfl) ?_
  refine lv_iload_n hx hb dL_ask_3 rfl (lv_at hl 3 rfl) ?_
  refine q_v (va_runS (As := [.ref (ad 0 0), .int (nI 14), .int (nI i), .int (bq)]) (rest := []) ⟨hx, hb, hml, hown, hts⟩ (a_firedAt l G es A σ ad hF i hi bq) (va_cwS 4 hts gL_ask_L_asked rfl rfl rfl (by decide +kernel) ⟨Nat.le_of_ble_eq_true rfl, Nat.le_of_ble_eq_true rfl⟩) ⟨qR.blind, qR.pre hC hW⟩ rfl rfl hl.1 rfl (lv_room (Nat.le_of_ble_eq_true rfl)) dL_ask_4 ⟨Nat.le_of_ble_eq_true rfl, Nat.le_of_ble_eq_true rfl⟩) hS (fun _ h => h.elim) (fun locs hS => ?_)
  exact W.iret hx hb hr (fun t ht _ => ⟨rfl, ht⟩) hS.2.2 dL_ask_7
set_option maxHeartbeats 4000000 in
set_option maxRecDepth 100000 in
theorem a_ground (l : Launch) (G : QG) (es : Nat) (A : Nat → Prop) (σ ad : QSt) (hF : qWF σ) (i : Nat) (hi : i < σ 0 3) (bq : Int32) : Met l yL_asked wsL_asked ({ frames := 5, cells := 0, slots := 0, locals := 106 } : Room) (qR G es A σ ad [.ref (ad 0 0), .int (nI 15), .int (nI i), .int (bq)]) (qPV (some (.int (nI (σ 163 i))))) 0 0 (fun _ => False) := by
  refine Met.ofW (cc := cL_asked) (maxL := 4) (ret := (some .int)) (by decide) rfl ?_
  intro p e s m args below meth c s₁ B hml hv
  obtain ⟨rfl, hC, hW⟩ := hv
  have hx := B.exec
  have hb := B.bytes
  have hr := B.returns
  have hts := atoms_spec (ws := wsL_asked) B.pre
  have hown : s.vm.findClass RL = some m.cls := findClass_of_methodNamed B.named
  have hlocks := B.notSynchronized
  have hS : va_S (fun _ => False) s.heap s.heap [] := va_S.rf
  have hl := lv_entry ([.ref (ad 0 0), .int (nI 15), .int (nI i), .int (bq)]) (n := 4) (Nat.le_of_ble_eq_true rfl)
  rw [lg_entry_eq]
  generalize (lg_sl ([.ref (ad 0 0), .int (nI 15), .int (nI i), .int (bq)]) ++ List.replicate (4 - (lg_sl ([.ref (ad 0 0), .int (nI 15), .int (nI i), .int (bq)])).length) Slot.unset).toArray = ls at hl ⊢
  have hl : lv_has ls 4 [(0, .ref (ad 0 0)), (1, .int (nI 15)), (2, .int (nI i)), (3, .int (bq))] := hl
  refine lv_iload_n hx hb dL_asked_0 rfl (lv_at hl 1 rfl) ?_
  refine lv_tableIn (off := 175) (tgt := 176) hx hb dL_asked_1 (by decide +kernel) (by decide +kernel) (by decide +kernel) (by decide) ?_
  refine lv_aload_n hx hb dL_asked_176 rfl (lv_at hl 0 rfl) ?_
  refine lv_iload_n hx hb dL_asked_177 rfl (lv_at hl 2 rfl) ?_
  refine q_v (va_runV (As := [.int (nI i)]) (rest := []) ⟨hx, hb, hml, hown, hts⟩ (m_ground l G es A σ ad hF i hi) (cwV 1 hts gL_asked_X7_ground rfl rfl rfl (by decide +kernel) ⟨Nat.le_of_ble_eq_true rfl, Nat.le_of_ble_eq_true rfl⟩) ⟨qR.blind, qrecv hC (hW.to qLV0) rfl, qR.pre hC hW⟩ rfl rfl hl.1 rfl (lv_room (Nat.le_of_ble_eq_true rfl)) dL_asked_178 ⟨Nat.le_of_ble_eq_true rfl, Nat.le_of_ble_eq_true rfl⟩) hS (fun _ h => h.elim) (fun locs hS => ?_)
  exact W.iret hx hb hr (fun t ht _ => ⟨rfl, ht⟩) hS.2.2 dL_asked_181
set_option maxHeartbeats 4000000 in
set_option maxRecDepth 100000 in
theorem b_ground (l : Launch) (G : QG) (es : Nat) (A : Nat → Prop) (σ ad : QSt) (hF : qWF σ) (i : Nat) (hi : i < σ 0 3) (bq : Int32) : Met l yL_ask wsL_ask ({ frames := 6, cells := 0, slots := 0, locals := 129 } : Room) (qR G es A σ ad [.ref (ad 0 0), .int (nI 15), .int (nI i), .int (bq)]) (qPV (some (.int (nI (σ 163 i))))) 0 0 (fun _ => False) := by
  refine q_ofWH (cc := cL_ask) (maxL := 5) (ret := (some .int)) (hh := [(0, 7, 8, 118), (0, 7, 14, 21), (0, 7, 20, 23), (0, 7, 26, 52)]) (by decide) rfl ?_
  intro p e s m args below meth c s₁ B hml htab hv
  obtain ⟨rfl, hC, hW⟩ := hv
  have hx := B.exec
  have hb := B.bytes
  have hr := B.returns
  have hts := atoms_spec (ws := wsL_ask) B.pre
  have hown : s.vm.findClass RL = some m.cls := findClass_of_methodNamed B.named
  have hlocks := B.notSynchronized
  have hS : va_S (fun _ => False) s.heap s.heap [] := va_S.rf
  have hl := lv_entry ([.ref (ad 0 0), .int (nI 15), .int (nI i), .int (bq)]) (n := 5) (Nat.le_of_ble_eq_true rfl)
  rw [lg_entry_eq]
  generalize (lg_sl ([.ref (ad 0 0), .int (nI 15), .int (nI i), .int (bq)]) ++ List.replicate (5 - (lg_sl ([.ref (ad 0 0), .int (nI 15), .int (nI i), .int (bq)])).length) Slot.unset).toArray = ls at hl ⊢
  have hl : lv_has ls 5 [(0, .ref (ad 0 0)), (1, .int (nI 15)), (2, .int (nI i)), (3, .int (bq))] := hl
  refine lv_aload_n hx hb dL_ask_0 rfl (lv_at hl 0 rfl) ?_
  refine lv_iload_n hx hb dL_ask_1 rfl (lv_at hl 1 rfl) ?_
  refine lv_iload_n hx hb dL_ask_2 rfl (lv_at hl 2 rfl) ?_
  refine lv_iload_n hx hb dL_ask_3 rfl (lv_at hl 3 rfl) ?_
  refine q_v (va_runS (As := [.ref (ad 0 0), .int (nI 15), .int (nI i), .int (bq)]) (rest := []) ⟨hx, hb, hml, hown, hts⟩ (a_ground l G es A σ ad hF i hi bq) (va_cwS 4 hts gL_ask_L_asked rfl rfl rfl (by decide +kernel) ⟨Nat.le_of_ble_eq_true rfl, Nat.le_of_ble_eq_true rfl⟩) ⟨qR.blind, qR.pre hC hW⟩ rfl rfl hl.1 rfl (lv_room (Nat.le_of_ble_eq_true rfl)) dL_ask_4 ⟨Nat.le_of_ble_eq_true rfl, Nat.le_of_ble_eq_true rfl⟩) hS (fun _ h => h.elim) (fun locs hS => ?_)
  exact W.iret hx hb hr (fun t ht _ => ⟨rfl, ht⟩) hS.2.2 dL_ask_7
set_option maxHeartbeats 4000000 in
set_option maxRecDepth 100000 in
theorem a_standsOn (l : Launch) (G : QG) (es : Nat) (A : Nat → Prop) (σ ad : QSt) (hF : qWF σ) (f i : Nat) (hf : f < σ 0 3) (hi : i < σ 0 0) : Met l yL_asked wsL_asked ({ frames := 5, cells := 0, slots := 0, locals := 108 } : Room) (qR G es A σ ad [.ref (ad 0 0), .int (nI 16), .int (nI f), .int (nI i)]) (qPV (some (.int (nI (qB (σ (1000 + f) i = 1)))))) 0 0 (fun _ => False) := by
  refine Met.ofW (cc := cL_asked) (maxL := 4) (ret := (some .int)) (by decide) rfl ?_
  intro p e s m args below meth c s₁ B hml hv
  obtain ⟨rfl, hC, hW⟩ := hv
  have hx := B.exec
  have hb := B.bytes
  have hr := B.returns
  have hts := atoms_spec (ws := wsL_asked) B.pre
  have hown : s.vm.findClass RL = some m.cls := findClass_of_methodNamed B.named
  have hlocks := B.notSynchronized
  have hS : va_S (fun _ => False) s.heap s.heap [] := va_S.rf
  have hl := lv_entry ([.ref (ad 0 0), .int (nI 16), .int (nI f), .int (nI i)]) (n := 4) (Nat.le_of_ble_eq_true rfl)
  rw [lg_entry_eq]
  generalize (lg_sl ([.ref (ad 0 0), .int (nI 16), .int (nI f), .int (nI i)]) ++ List.replicate (4 - (lg_sl ([.ref (ad 0 0), .int (nI 16), .int (nI f), .int (nI i)])).length) Slot.unset).toArray = ls at hl ⊢
  have hl : lv_has ls 4 [(0, .ref (ad 0 0)), (1, .int (nI 16)), (2, .int (nI f)), (3, .int (nI i))] := hl
  refine lv_iload_n hx hb dL_asked_0 rfl (lv_at hl 1 rfl) ?_
  refine lv_tableIn (off := 181) (tgt := 182) hx hb dL_asked_1 (by decide +kernel) (by decide +kernel) (by decide +kernel) (by decide) ?_
  refine lv_aload_n hx hb dL_asked_182 rfl (lv_at hl 0 rfl) ?_
  refine lv_iload_n hx hb dL_asked_183 rfl (lv_at hl 2 rfl) ?_
  refine lv_iload_n hx hb dL_asked_184 rfl (lv_at hl 3 rfl) ?_
  refine q_v (va_runV (As := [.int (nI f), .int (nI i)]) (rest := []) ⟨hx, hb, hml, hown, hts⟩ (m_standsOn l G es A σ ad hF f i hf hi) (cwV 2 hts gL_asked_X7_standsOn rfl rfl rfl (by decide +kernel) ⟨Nat.le_of_ble_eq_true rfl, Nat.le_of_ble_eq_true rfl⟩) ⟨qR.blind, qrecv hC (hW.to qLV0) rfl, qR.pre hC hW⟩ rfl rfl hl.1 rfl (lv_room (Nat.le_of_ble_eq_true rfl)) dL_asked_185 ⟨Nat.le_of_ble_eq_true rfl, Nat.le_of_ble_eq_true rfl⟩) hS (fun _ h => h.elim) (fun locs hS => ?_)
  refine q_v (va_runS (As := [.int (nI (qB (σ (1000 + f) i = 1)))]) (rest := []) ⟨hx, hb, hml, hown, hts⟩ (a_told l (qB (σ (1000 + f) i = 1)) qB_le) (va_cwS 1 hts gL_asked_L_told rfl rfl rfl (by decide +kernel) ⟨Nat.le_of_ble_eq_true rfl, Nat.le_of_ble_eq_true rfl⟩) ⟨qU.blind, qU.pre⟩ rfl rfl hl.1 rfl (lv_room (Nat.le_of_ble_eq_true rfl)) dL_asked_188 ⟨Nat.le_of_ble_eq_true rfl, Nat.le_of_ble_eq_true rfl⟩) hS (fun _ h => h.elim) (fun locs hS => ?_)
  exact W.iret hx hb hr (fun t ht _ => ⟨rfl, ht⟩) hS.2.2 dL_asked_191
set_option maxHeartbeats 4000000 in
set_option maxRecDepth 100000 in
theorem b_standsOn (l : Launch) (G : QG) (es : Nat) (A : Nat → Prop) (σ ad : QSt) (hF : qWF σ) (f i : Nat) (hf : f < σ 0 3) (hi : i < σ 0 0) : Met l yL_ask wsL_ask ({ frames := 6, cells := 0, slots := 0, locals := 131 } : Room) (qR G es A σ ad [.ref (ad 0 0), .int (nI 16), .int (nI f), .int (nI i)]) (qPV (some (.int (nI (qB (σ (1000 + f) i = 1)))))) 0 0 (fun _ => False) := by
  refine q_ofWH (cc := cL_ask) (maxL := 5) (ret := (some .int)) (hh := [(0, 7, 8, 118), (0, 7, 14, 21), (0, 7, 20, 23), (0, 7, 26, 52)]) (by decide) rfl ?_
  intro p e s m args below meth c s₁ B hml htab hv
  obtain ⟨rfl, hC, hW⟩ := hv
  have hx := B.exec
  have hb := B.bytes
  have hr := B.returns
  have hts := atoms_spec (ws := wsL_ask) B.pre
  have hown : s.vm.findClass RL = some m.cls := findClass_of_methodNamed B.named
  have hlocks := B.notSynchronized
  have hS : va_S (fun _ => False) s.heap s.heap [] := va_S.rf
  have hl := lv_entry ([.ref (ad 0 0), .int (nI 16), .int (nI f), .int (nI i)]) (n := 5) (Nat.le_of_ble_eq_true rfl)
  rw [lg_entry_eq]
  generalize (lg_sl ([.ref (ad 0 0), .int (nI 16), .int (nI f), .int (nI i)]) ++ List.replicate (5 - (lg_sl ([.ref (ad 0 0), .int (nI 16), .int (nI f), .int (nI i)])).length) Slot.unset).toArray = ls at hl ⊢
  have hl : lv_has ls 5 [(0, .ref (ad 0 0)), (1, .int (nI 16)), (2, .int (nI f)), (3, .int (nI i))] := hl
  refine lv_aload_n hx hb dL_ask_0 rfl (lv_at hl 0 rfl) ?_
  refine lv_iload_n hx hb dL_ask_1 rfl (lv_at hl 1 rfl) ?_
  refine lv_iload_n hx hb dL_ask_2 rfl (lv_at hl 2 rfl) ?_
  refine lv_iload_n hx hb dL_ask_3 rfl (lv_at hl 3 rfl) ?_
  refine q_v (va_runS (As := [.ref (ad 0 0), .int (nI 16), .int (nI f), .int (nI i)]) (rest := []) ⟨hx, hb, hml, hown, hts⟩ (a_standsOn l G es A σ ad hF f i hf hi) (va_cwS 4 hts gL_ask_L_asked rfl rfl rfl (by decide +kernel) ⟨Nat.le_of_ble_eq_true rfl, Nat.le_of_ble_eq_true rfl⟩) ⟨qR.blind, qR.pre hC hW⟩ rfl rfl hl.1 rfl (lv_room (Nat.le_of_ble_eq_true rfl)) dL_ask_4 ⟨Nat.le_of_ble_eq_true rfl, Nat.le_of_ble_eq_true rfl⟩) hS (fun _ h => h.elim) (fun locs hS => ?_)
  exact W.iret hx hb hr (fun t ht _ => ⟨rfl, ht⟩) hS.2.2 dL_ask_7
set_option maxHeartbeats 4000000 in
set_option maxRecDepth 100000 in
theorem a_isGuarded (l : Launch) (G : QG) (es : Nat) (A : Nat → Prop) (σ ad : QSt) (hF : qWF σ) (i : Nat) (hi : i < σ 0 0) (bq : Int32) : Met l yL_asked wsL_asked ({ frames := 5, cells := 0, slots := 0, locals := 106 } : Room) (qR G es A σ ad [.ref (ad 0 0), .int (nI 17), .int (nI i), .int (bq)]) (qPV (some (.int (nI (qB (0 < σ 70 i)))))) 0 0 (fun _ => False) := by
  refine Met.ofW (cc := cL_asked) (maxL := 4) (ret := (some .int)) (by decide) rfl ?_
  intro p e s m args below meth c s₁ B hml hv
  obtain ⟨rfl, hC, hW⟩ := hv
  have hx := B.exec
  have hb := B.bytes
  have hr := B.returns
  have hts := atoms_spec (ws := wsL_asked) B.pre
  have hown : s.vm.findClass RL = some m.cls := findClass_of_methodNamed B.named
  have hlocks := B.notSynchronized
  have hS : va_S (fun _ => False) s.heap s.heap [] := va_S.rf
  have hl := lv_entry ([.ref (ad 0 0), .int (nI 17), .int (nI i), .int (bq)]) (n := 4) (Nat.le_of_ble_eq_true rfl)
  rw [lg_entry_eq]
  generalize (lg_sl ([.ref (ad 0 0), .int (nI 17), .int (nI i), .int (bq)]) ++ List.replicate (4 - (lg_sl ([.ref (ad 0 0), .int (nI 17), .int (nI i), .int (bq)])).length) Slot.unset).toArray = ls at hl ⊢
  have hl : lv_has ls 4 [(0, .ref (ad 0 0)), (1, .int (nI 17)), (2, .int (nI i)), (3, .int (bq))] := hl
  refine lv_iload_n hx hb dL_asked_0 rfl (lv_at hl 1 rfl) ?_
  refine lv_tableOut (tgt := 192) hx hb dL_asked_1 (by decide +kernel) (by decide) ?_
  refine lv_aload_n hx hb dL_asked_192 rfl (lv_at hl 0 rfl) ?_
  refine lv_iload_n hx hb dL_asked_193 rfl (lv_at hl 2 rfl) ?_
  refine q_v (va_runV (As := [.int (nI i)]) (rest := []) ⟨hx, hb, hml, hown, hts⟩ (m_isGuarded l G es A σ ad hF i hi) (cwV 1 hts gL_asked_X7_isGuarded rfl rfl rfl (by decide +kernel) ⟨Nat.le_of_ble_eq_true rfl, Nat.le_of_ble_eq_true rfl⟩) ⟨qR.blind, qrecv hC (hW.to qLV0) rfl, qR.pre hC hW⟩ rfl rfl hl.1 rfl (lv_room (Nat.le_of_ble_eq_true rfl)) dL_asked_194 ⟨Nat.le_of_ble_eq_true rfl, Nat.le_of_ble_eq_true rfl⟩) hS (fun _ h => h.elim) (fun locs hS => ?_)
  refine q_v (va_runS (As := [.int (nI (qB (0 < σ 70 i)))]) (rest := []) ⟨hx, hb, hml, hown, hts⟩ (a_told l (qB (0 < σ 70 i)) qB_le) (va_cwS 1 hts gL_asked_L_told rfl rfl rfl (by decide +kernel) ⟨Nat.le_of_ble_eq_true rfl, Nat.le_of_ble_eq_true rfl⟩) ⟨qU.blind, qU.pre⟩ rfl rfl hl.1 rfl (lv_room (Nat.le_of_ble_eq_true rfl)) dL_asked_197 ⟨Nat.le_of_ble_eq_true rfl, Nat.le_of_ble_eq_true rfl⟩) hS (fun _ h => h.elim) (fun locs hS => ?_)
  exact W.iret hx hb hr (fun t ht _ => ⟨rfl, ht⟩) hS.2.2 dL_asked_200
set_option maxHeartbeats 4000000 in
set_option maxRecDepth 100000 in
theorem b_isGuarded (l : Launch) (G : QG) (es : Nat) (A : Nat → Prop) (σ ad : QSt) (hF : qWF σ) (i : Nat) (hi : i < σ 0 0) (bq : Int32) : Met l yL_ask wsL_ask ({ frames := 6, cells := 0, slots := 0, locals := 129 } : Room) (qR G es A σ ad [.ref (ad 0 0), .int (nI 17), .int (nI i), .int (bq)]) (qPV (some (.int (nI (qB (0 < σ 70 i)))))) 0 0 (fun _ => False) := by
  refine q_ofWH (cc := cL_ask) (maxL := 5) (ret := (some .int)) (hh := [(0, 7, 8, 118), (0, 7, 14, 21), (0, 7, 20, 23), (0, 7, 26, 52)]) (by decide) rfl ?_
  intro p e s m args below meth c s₁ B hml htab hv
  obtain ⟨rfl, hC, hW⟩ := hv
  have hx := B.exec
  have hb := B.bytes
  have hr := B.returns
  have hts := atoms_spec (ws := wsL_ask) B.pre
  have hown : s.vm.findClass RL = some m.cls := findClass_of_methodNamed B.named
  have hlocks := B.notSynchronized
  have hS : va_S (fun _ => False) s.heap s.heap [] := va_S.rf
  have hl := lv_entry ([.ref (ad 0 0), .int (nI 17), .int (nI i), .int (bq)]) (n := 5) (Nat.le_of_ble_eq_true rfl)
  rw [lg_entry_eq]
  generalize (lg_sl ([.ref (ad 0 0), .int (nI 17), .int (nI i), .int (bq)]) ++ List.replicate (5 - (lg_sl ([.ref (ad 0 0), .int (nI 17), .int (nI i), .int (bq)])).length) Slot.unset).toArray = ls at hl ⊢
  have hl : lv_has ls 5 [(0, .ref (ad 0 0)), (1, .int (nI 17)), (2, .int (nI i)), (3, .int (bq))] := hl
  refine lv_aload_n hx hb dL_ask_0 rfl (lv_at hl 0 rfl) ?_
  refine lv_iload_n hx hb dL_ask_1 rfl (lv_at hl 1 rfl) ?_
  refine lv_iload_n hx hb dL_ask_2 rfl (lv_at hl 2 rfl) ?_
  refine lv_iload_n hx hb dL_ask_3 rfl (lv_at hl 3 rfl) ?_
  refine q_v (va_runS (As := [.ref (ad 0 0), .int (nI 17), .int (nI i), .int (bq)]) (rest := []) ⟨hx, hb, hml, hown, hts⟩ (a_isGuarded l G es A σ ad hF i hi bq) (va_cwS 4 hts gL_ask_L_asked rfl rfl rfl (by decide +kernel) ⟨Nat.le_of_ble_eq_true rfl, Nat.le_of_ble_eq_true rfl⟩) ⟨qR.blind, qR.pre hC hW⟩ rfl rfl hl.1 rfl (lv_room (Nat.le_of_ble_eq_true rfl)) dL_ask_4 ⟨Nat.le_of_ble_eq_true rfl, Nat.le_of_ble_eq_true rfl⟩) hS (fun _ h => h.elim) (fun locs hS => ?_)
  exact W.iret hx hb hr (fun t ht _ => ⟨rfl, ht⟩) hS.2.2 dL_ask_7
set_option maxHeartbeats 4000000 in
set_option maxRecDepth 100000 in
theorem ax_patternOf1 (l : Launch) (hst : l.stackTraces = false) (G : QG) (es : Nat) (A : Nat → Prop) (σ ad : QSt) (hF : qWF σ) (x : Int32) (hx0 : ¬ rIn x (σ 0 0)) (bq : Int32) : vx_Met l yL_asked wsL_asked ({ frames := 8, cells := 1, slots := 6, locals := 124 } : Room) (qX G es A σ ad [.ref (ad 0 0), .int (nI 1), .int (x), .int (bq)]) qNR (qXX "java/util/NoSuchElementException") 1 6 A := by
  refine vx_ofW (cc := cL_asked) (maxL := 4) (ret := (some .int)) (by decide) rfl ?_
  intro p e s m args below meth c s₁ B hml htab hv
  obtain ⟨rfl, hC, hW, hZ, hT⟩ := hv
  have hx := B.exec
  have hb := B.bytes
  have hts := atoms_spec (ws := wsL_asked) B.pre
  have hown : s.vm.findClass RL = some m.cls := findClass_of_methodNamed B.named
  have hlocks := B.notSynchronized
  have hS : va_S A s.heap s.heap [] := va_S.rf
  have hl := lv_entry ([.ref (ad 0 0), .int (nI 1), .int (x), .int (bq)]) (n := 4) (Nat.le_of_ble_eq_true rfl)
  rw [lg_entry_eq]
  generalize (lg_sl ([.ref (ad 0 0), .int (nI 1), .int (x), .int (bq)]) ++ List.replicate (4 - (lg_sl ([.ref (ad 0 0), .int (nI 1), .int (x), .int (bq)])).length) Slot.unset).toArray = ls at hl ⊢
  have hl : lv_has ls 4 [(0, .ref (ad 0 0)), (1, .int (nI 1)), (2, .int (x)), (3, .int (bq))] := hl
  refine lv_iload_n hx hb dL_asked_0 rfl (lv_at hl 1 rfl) ?_
  refine lv_tableIn (off := 89) (tgt := 90) hx hb dL_asked_1 (by decide +kernel) (by decide +kernel) (by decide +kernel) (by decide) ?_
  refine lv_aload_n hx hb dL_asked_90 rfl (lv_at hl 0 rfl) ?_
  refine lv_iload_n hx hb dL_asked_91 rfl (lv_at hl 2 rfl) ?_
  exact q_xo (vx_runV (As := [.int (x)]) (rest := []) ⟨hx, hb, hml, hown, hts⟩ (x_patternOf1 l hst G es A σ ad hF x hx0) (cwV 1 hts gL_asked_X7_patternOf rfl rfl rfl (by decide +kernel) ⟨Nat.le_of_ble_eq_true rfl, Nat.le_of_ble_eq_true rfl⟩) ⟨qX.blind, qrecv hC (hW.to qLV0) rfl, qX.pre hC hW hZ hT⟩ rfl rfl hl.1 rfl (lv_room (Nat.le_of_ble_eq_true rfl)) dL_asked_92 ⟨Nat.le_of_ble_eq_true rfl, Nat.le_of_ble_eq_true rfl⟩) hS (fun _ h => h) htab hlocks
set_option maxHeartbeats 4000000 in
set_option maxRecDepth 100000 in
theorem bx_patternOf1 (l : Launch) (hst : l.stackTraces = false) (G : QG) (es : Nat) (A : Nat → Prop) (σ ad : QSt) (hF : qWF σ) (x : Int32) (hx0 : ¬ rIn x (σ 0 0)) (bq : Int32) : Met l yL_ask wsL_ask ({ frames := 9, cells := 1, slots := 6, locals := 147 } : Room) (qAk G es A σ ad [.ref (ad 0 0), .int (nI 1), .int (x), .int (bq)]) (qAP (some (.int (-2005)))) 1 6 A := by
  refine q_ofWH (cc := cL_ask) (maxL := 5) (ret := (some .int)) (hh := [(0, 7, 8, 118), (0, 7, 14, 21), (0, 7, 20, 23), (0, 7, 26, 52)]) (by decide) rfl ?_
  intro p e s m args below meth c s₁ B hml htab hv
  obtain ⟨rfl, hC, hW, hZ, hA, hT, hN⟩ := hv
  have hx := B.exec
  have hb := B.bytes
  have hr := B.returns
  have hts := atoms_spec (ws := wsL_ask) B.pre
  have hown : s.vm.findClass RL = some m.cls := findClass_of_methodNamed B.named
  have hlocks := B.notSynchronized
  have hS : va_S A s.heap s.heap [] := va_S.rf
  have hl := lv_entry ([.ref (ad 0 0), .int (nI 1), .int (x), .int (bq)]) (n := 5) (Nat.le_of_ble_eq_true rfl)
  rw [lg_entry_eq]
  generalize (lg_sl ([.ref (ad 0 0), .int (nI 1), .int (x), .int (bq)]) ++ List.replicate (5 - (lg_sl ([.ref (ad 0 0), .int (nI 1), .int (x), .int (bq)])).length) Slot.unset).toArray = ls at hl ⊢
  have hl : lv_has ls 5 [(0, .ref (ad 0 0)), (1, .int (nI 1)), (2, .int (x)), (3, .int (bq))] := hl
  refine lv_aload_n hx hb dL_ask_0 rfl (lv_at hl 0 rfl) ?_
  refine lv_iload_n hx hb dL_ask_1 rfl (lv_at hl 1 rfl) ?_
  refine lv_iload_n hx hb dL_ask_2 rfl (lv_at hl 2 rfl) ?_
  refine lv_iload_n hx hb dL_ask_3 rfl (lv_at hl 3 rfl) ?_
  refine q_xcatch (D := A) (a := [(0, 7, 8, 118), (0, 7, 14, 21), (0, 7, 20, 23)]) (h := (0, 7, 26, 52)) (b := []) (vx_runS (As := [.ref (ad 0 0), .int (nI 1), .int (x), .int (bq)]) (rest := []) ⟨hx, hb, hml, hown, hts⟩ (ax_patternOf1 l hst G es A σ ad hF x hx0 bq) (va_cwS 4 hts gL_ask_L_asked rfl rfl rfl (by decide +kernel) ⟨Nat.le_of_ble_eq_true rfl, Nat.le_of_ble_eq_true rfl⟩) ⟨qX.blind, qX.pre hC hW hZ hT⟩ rfl rfl hl.1 rfl (lv_room (Nat.le_of_ble_eq_true rfl)) dL_ask_4 ⟨Nat.le_of_ble_eq_true rfl, Nat.le_of_ble_eq_true rfl⟩) hS (fun _ h => h) hown htab rfl (List.forall_mem_cons.mpr ⟨⟨by decide, "java/lang/IndexOutOfBoundsException", (hts (.classLink RL 118 "java/lang/IndexOutOfBoundsException") (List.mem_of_getElem? (i := 1) (by decide +kernel))), hN ("java/util/NoSuchElementException", "java/lang/IndexOutOfBoundsException") (by decide)⟩, (List.forall_mem_cons.mpr ⟨⟨by decide, "java/lang/IllegalArgumentException", (hts (.classLink RL 21 "java/lang/IllegalArgumentException") (List.mem_of_getElem? (i := 2) (by decide +kernel))), hN ("java/util/NoSuchElementException", "java/lang/IllegalArgumentException") (by decide)⟩, (List.forall_mem_cons.mpr ⟨⟨by decide, "java/lang/IllegalStateException", (hts (.classLink RL 23 "java/lang/IllegalStateException") (List.mem_of_getElem? (i := 3) (by decide +kernel))), hN ("java/util/NoSuchElementException", "java/lang/IllegalStateException") (by decide)⟩, (List.forall_mem_nil _)⟩)⟩)⟩) (by decide) (by decide) (hts (.classLink RL 52 "java/util/NoSuchElementException") (List.mem_of_getElem? (i := 4) (by decide +kernel))) (q_qw hC (by decide +kernel)) (fun H1 locs q9 hz hk hS => ?_)
  refine lv_astore (lv' := [(4, .ref (q9)), (0, .ref (ad 0 0)), (1, .int (nI 1)), (2, .int (x)), (3, .int (bq))]) hx hb dL_ask_26 hl (by decide) rfl (fun ls hl => ?_)
  refine lv_sipush (v := -2005) hx hb dL_ask_28 (by decide) ?_
  exact W.iret hx hb hr (fun t ht _ => ⟨rfl, by rw [ht]; exact ⟨hz, hk⟩⟩) hS.2.2 dL_ask_31
set_option maxHeartbeats 4000000 in
set_option maxRecDepth 100000 in
theorem ax_linesOf1 (l : Launch) (hst : l.stackTraces = false) (G : QG) (es : Nat) (A : Nat → Prop) (σ ad : QSt) (hF : qWF σ) (x : Int32) (hx0 : ¬ rIn x (σ 0 1)) (bq : Int32) : vx_Met l yL_asked wsL_asked ({ frames := 8, cells := 1, slots := 6, locals := 128 } : Room) (qX G es A σ ad [.ref (ad 0 0), .int (nI 4), .int (x), .int (bq)]) qNR (qXX "java/util/NoSuchElementException") 1 6 A := by
  refine vx_ofW (cc := cL_asked) (maxL := 4) (ret := (some .int)) (by decide) rfl ?_
  intro p e s m args below meth c s₁ B hml htab hv
  obtain ⟨rfl, hC, hW, hZ, hT⟩ := hv
  have hx := B.exec
  have hb := B.bytes
  have hts := atoms_spec (ws := wsL_asked) B.pre
  have hown : s.vm.findClass RL = some m.cls := findClass_of_methodNamed B.named
  have hlocks := B.notSynchronized
  have hS : va_S A s.heap s.heap [] := va_S.rf
  have hl := lv_entry ([.ref (ad 0 0), .int (nI 4), .int (x), .int (bq)]) (n := 4) (Nat.le_of_ble_eq_true rfl)
  rw [lg_entry_eq]
  generalize (lg_sl ([.ref (ad 0 0), .int (nI 4), .int (x), .int (bq)]) ++ List.replicate (4 - (lg_sl ([.ref (ad 0 0), .int (nI 4), .int (x), .int (bq)])).length) Slot.unset).toArray = ls at hl ⊢
  have hl : lv_has ls 4 [(0, .ref (ad 0 0)), (1, .int (nI 4)), (2, .int (x)), (3, .int (bq))] := hl
  refine lv_iload_n hx hb dL_asked_0 rfl (lv_at hl 1 rfl) ?_
  refine lv_tableIn (off := 108) (tgt := 109) hx hb dL_asked_1 (by decide +kernel) (by decide +kernel) (by decide +kernel) (by decide) ?_
  refine lv_aload_n hx hb dL_asked_109 rfl (lv_at hl 0 rfl) ?_
  refine lv_iload_n hx hb dL_asked_110 rfl (lv_at hl 2 rfl) ?_
  exact q_xo (vx_runV (As := [.int (x)]) (rest := []) ⟨hx, hb, hml, hown, hts⟩ (x_linesOf1 l hst G es A σ ad hF x hx0) (cwV 1 hts gL_asked_X7_linesOf rfl rfl rfl (by decide +kernel) ⟨Nat.le_of_ble_eq_true rfl, Nat.le_of_ble_eq_true rfl⟩) ⟨qX.blind, qrecv hC (hW.to qLV0) rfl, qX.pre hC hW hZ hT⟩ rfl rfl hl.1 rfl (lv_room (Nat.le_of_ble_eq_true rfl)) dL_asked_111 ⟨Nat.le_of_ble_eq_true rfl, Nat.le_of_ble_eq_true rfl⟩) hS (fun _ h => h) htab hlocks
set_option maxHeartbeats 4000000 in
set_option maxRecDepth 100000 in
theorem bx_linesOf1 (l : Launch) (hst : l.stackTraces = false) (G : QG) (es : Nat) (A : Nat → Prop) (σ ad : QSt) (hF : qWF σ) (x : Int32) (hx0 : ¬ rIn x (σ 0 1)) (bq : Int32) : Met l yL_ask wsL_ask ({ frames := 9, cells := 1, slots := 6, locals := 151 } : Room) (qAk G es A σ ad [.ref (ad 0 0), .int (nI 4), .int (x), .int (bq)]) (qAP (some (.int (-2005)))) 1 6 A := by
  refine q_ofWH (cc := cL_ask) (maxL := 5) (ret := (some .int)) (hh := [(0, 7, 8, 118), (0, 7, 14, 21), (0, 7, 20, 23), (0, 7, 26, 52)]) (by decide) rfl ?_
  intro p e s m args below meth c s₁ B hml htab hv
  obtain ⟨rfl, hC, hW, hZ, hA, hT, hN⟩ := hv
  have hx := B.exec
  have hb := B.bytes
  have hr := B.returns
  have hts := atoms_spec (ws := wsL_ask) B.pre
  have hown : s.vm.findClass RL = some m.cls := findClass_of_methodNamed B.named
  have hlocks := B.notSynchronized
  have hS : va_S A s.heap s.heap [] := va_S.rf
  have hl := lv_entry ([.ref (ad 0 0), .int (nI 4), .int (x), .int (bq)]) (n := 5) (Nat.le_of_ble_eq_true rfl)
  rw [lg_entry_eq]
  generalize (lg_sl ([.ref (ad 0 0), .int (nI 4), .int (x), .int (bq)]) ++ List.replicate (5 - (lg_sl ([.ref (ad 0 0), .int (nI 4), .int (x), .int (bq)])).length) Slot.unset).toArray = ls at hl ⊢
  have hl : lv_has ls 5 [(0, .ref (ad 0 0)), (1, .int (nI 4)), (2, .int (x)), (3, .int (bq))] := hl
  refine lv_aload_n hx hb dL_ask_0 rfl (lv_at hl 0 rfl) ?_
  refine lv_iload_n hx hb dL_ask_1 rfl (lv_at hl 1 rfl) ?_
  refine lv_iload_n hx hb dL_ask_2 rfl (lv_at hl 2 rfl) ?_
  refine lv_iload_n hx hb dL_ask_3 rfl (lv_at hl 3 rfl) ?_
  refine q_xcatch (D := A) (a := [(0, 7, 8, 118), (0, 7, 14, 21), (0, 7, 20, 23)]) (h := (0, 7, 26, 52)) (b := []) (vx_runS (As := [.ref (ad 0 0), .int (nI 4), .int (x), .int (bq)]) (rest := []) ⟨hx, hb, hml, hown, hts⟩ (ax_linesOf1 l hst G es A σ ad hF x hx0 bq) (va_cwS 4 hts gL_ask_L_asked rfl rfl rfl (by decide +kernel) ⟨Nat.le_of_ble_eq_true rfl, Nat.le_of_ble_eq_true rfl⟩) ⟨qX.blind, qX.pre hC hW hZ hT⟩ rfl rfl hl.1 rfl (lv_room (Nat.le_of_ble_eq_true rfl)) dL_ask_4 ⟨Nat.le_of_ble_eq_true rfl, Nat.le_of_ble_eq_true rfl⟩) hS (fun _ h => h) hown htab rfl (List.forall_mem_cons.mpr ⟨⟨by decide, "java/lang/IndexOutOfBoundsException", (hts (.classLink RL 118 "java/lang/IndexOutOfBoundsException") (List.mem_of_getElem? (i := 1) (by decide +kernel))), hN ("java/util/NoSuchElementException", "java/lang/IndexOutOfBoundsException") (by decide)⟩, (List.forall_mem_cons.mpr ⟨⟨by decide, "java/lang/IllegalArgumentException", (hts (.classLink RL 21 "java/lang/IllegalArgumentException") (List.mem_of_getElem? (i := 2) (by decide +kernel))), hN ("java/util/NoSuchElementException", "java/lang/IllegalArgumentException") (by decide)⟩, (List.forall_mem_cons.mpr ⟨⟨by decide, "java/lang/IllegalStateException", (hts (.classLink RL 23 "java/lang/IllegalStateException") (List.mem_of_getElem? (i := 3) (by decide +kernel))), hN ("java/util/NoSuchElementException", "java/lang/IllegalStateException") (by decide)⟩, (List.forall_mem_nil _)⟩)⟩)⟩) (by decide) (by decide) (hts (.classLink RL 52 "java/util/NoSuchElementException") (List.mem_of_getElem? (i := 4) (by decide +kernel))) (q_qw hC (by decide +kernel)) (fun H1 locs q9 hz hk hS => ?_)
  refine lv_astore (lv' := [(4, .ref (q9)), (0, .ref (ad 0 0)), (1, .int (nI 4)), (2, .int (x)), (3, .int (bq))]) hx hb dL_ask_26 hl (by decide) rfl (fun ls hl => ?_)
  refine lv_sipush (v := -2005) hx hb dL_ask_28 (by decide) ?_
  exact W.iret hx hb hr (fun t ht _ => ⟨rfl, by rw [ht]; exact ⟨hz, hk⟩⟩) hS.2.2 dL_ask_31
set_option maxHeartbeats 4000000 in
set_option maxRecDepth 100000 in
theorem ax_linesOf1m (l : Launch) (hst : l.stackTraces = false) (G : QG) (es : Nat) (A : Nat → Prop) (σ ad : QSt) (hF : qWF σ) (p0 : Nat) (hp : p0 < σ 0 1) (hm : σ 97 p0 ≠ 0) (bq : Int32) : vx_Met l yL_asked wsL_asked ({ frames := 8, cells := 1, slots := 6, locals := 128 } : Room) (qX G es A σ ad [.ref (ad 0 0), .int (nI 4), .int (nI p0), .int (bq)]) qNR (qXX "java/util/NoSuchElementException") 1 6 A := by
  refine vx_ofW (cc := cL_asked) (maxL := 4) (ret := (some .int)) (by decide) rfl ?_
  intro p e s m args below meth c s₁ B hml htab hv
  obtain ⟨rfl, hC, hW, hZ, hT⟩ := hv
  have hx := B.exec
  have hb := B.bytes
  have hts := atoms_spec (ws := wsL_asked) B.pre
  have hown : s.vm.findClass RL = some m.cls := findClass_of_methodNamed B.named
  have hlocks := B.notSynchronized
  have hS : va_S A s.heap s.heap [] := va_S.rf
  have hl := lv_entry ([.ref (ad 0 0), .int (nI 4), .int (nI p0), .int (bq)]) (n := 4) (Nat.le_of_ble_eq_true rfl)
  rw [lg_entry_eq]
  generalize (lg_sl ([.ref (ad 0 0), .int (nI 4), .int (nI p0), .int (bq)]) ++ List.replicate (4 - (lg_sl ([.ref (ad 0 0), .int (nI 4), .int (nI p0), .int (bq)])).length) Slot.unset).toArray = ls at hl ⊢
  have hl : lv_has ls 4 [(0, .ref (ad 0 0)), (1, .int (nI 4)), (2, .int (nI p0)), (3, .int (bq))] := hl
  refine lv_iload_n hx hb dL_asked_0 rfl (lv_at hl 1 rfl) ?_
  refine lv_tableIn (off := 108) (tgt := 109) hx hb dL_asked_1 (by decide +kernel) (by decide +kernel) (by decide +kernel) (by decide) ?_
  refine lv_aload_n hx hb dL_asked_109 rfl (lv_at hl 0 rfl) ?_
  refine lv_iload_n hx hb dL_asked_110 rfl (lv_at hl 2 rfl) ?_
  exact q_xo (vx_runV (As := [.int (nI p0)]) (rest := []) ⟨hx, hb, hml, hown, hts⟩ (x_linesOf1m l hst G es A σ ad hF p0 hp hm) (cwV 1 hts gL_asked_X7_linesOf rfl rfl rfl (by decide +kernel) ⟨Nat.le_of_ble_eq_true rfl, Nat.le_of_ble_eq_true rfl⟩) ⟨qX.blind, qrecv hC (hW.to qLV0) rfl, qX.pre hC hW hZ hT⟩ rfl rfl hl.1 rfl (lv_room (Nat.le_of_ble_eq_true rfl)) dL_asked_111 ⟨Nat.le_of_ble_eq_true rfl, Nat.le_of_ble_eq_true rfl⟩) hS (fun _ h => h) htab hlocks
set_option maxHeartbeats 4000000 in
set_option maxRecDepth 100000 in
theorem bx_linesOf1m (l : Launch) (hst : l.stackTraces = false) (G : QG) (es : Nat) (A : Nat → Prop) (σ ad : QSt) (hF : qWF σ) (p0 : Nat) (hp : p0 < σ 0 1) (hm : σ 97 p0 ≠ 0) (bq : Int32) : Met l yL_ask wsL_ask ({ frames := 9, cells := 1, slots := 6, locals := 151 } : Room) (qAk G es A σ ad [.ref (ad 0 0), .int (nI 4), .int (nI p0), .int (bq)]) (qAP (some (.int (-2005)))) 1 6 A := by
  refine q_ofWH (cc := cL_ask) (maxL := 5) (ret := (some .int)) (hh := [(0, 7, 8, 118), (0, 7, 14, 21), (0, 7, 20, 23), (0, 7, 26, 52)]) (by decide) rfl ?_
  intro p e s m args below meth c s₁ B hml htab hv
  obtain ⟨rfl, hC, hW, hZ, hA, hT, hN⟩ := hv
  have hx := B.exec
  have hb := B.bytes
  have hr := B.returns
  have hts := atoms_spec (ws := wsL_ask) B.pre
  have hown : s.vm.findClass RL = some m.cls := findClass_of_methodNamed B.named
  have hlocks := B.notSynchronized
  have hS : va_S A s.heap s.heap [] := va_S.rf
  have hl := lv_entry ([.ref (ad 0 0), .int (nI 4), .int (nI p0), .int (bq)]) (n := 5) (Nat.le_of_ble_eq_true rfl)
  rw [lg_entry_eq]
  generalize (lg_sl ([.ref (ad 0 0), .int (nI 4), .int (nI p0), .int (bq)]) ++ List.replicate (5 - (lg_sl ([.ref (ad 0 0), .int (nI 4), .int (nI p0), .int (bq)])).length) Slot.unset).toArray = ls at hl ⊢
  have hl : lv_has ls 5 [(0, .ref (ad 0 0)), (1, .int (nI 4)), (2, .int (nI p0)), (3, .int (bq))] := hl
  refine lv_aload_n hx hb dL_ask_0 rfl (lv_at hl 0 rfl) ?_
  refine lv_iload_n hx hb dL_ask_1 rfl (lv_at hl 1 rfl) ?_
  refine lv_iload_n hx hb dL_ask_2 rfl (lv_at hl 2 rfl) ?_
  refine lv_iload_n hx hb dL_ask_3 rfl (lv_at hl 3 rfl) ?_
  refine q_xcatch (D := A) (a := [(0, 7, 8, 118), (0, 7, 14, 21), (0, 7, 20, 23)]) (h := (0, 7, 26, 52)) (b := []) (vx_runS (As := [.ref (ad 0 0), .int (nI 4), .int (nI p0), .int (bq)]) (rest := []) ⟨hx, hb, hml, hown, hts⟩ (ax_linesOf1m l hst G es A σ ad hF p0 hp hm bq) (va_cwS 4 hts gL_ask_L_asked rfl rfl rfl (by decide +kernel) ⟨Nat.le_of_ble_eq_true rfl, Nat.le_of_ble_eq_true rfl⟩) ⟨qX.blind, qX.pre hC hW hZ hT⟩ rfl rfl hl.1 rfl (lv_room (Nat.le_of_ble_eq_true rfl)) dL_ask_4 ⟨Nat.le_of_ble_eq_true rfl, Nat.le_of_ble_eq_true rfl⟩) hS (fun _ h => h) hown htab rfl (List.forall_mem_cons.mpr ⟨⟨by decide, "java/lang/IndexOutOfBoundsException", (hts (.classLink RL 118 "java/lang/IndexOutOfBoundsException") (List.mem_of_getElem? (i := 1) (by decide +kernel))), hN ("java/util/NoSuchElementException", "java/lang/IndexOutOfBoundsException") (by decide)⟩, (List.forall_mem_cons.mpr ⟨⟨by decide, "java/lang/IllegalArgumentException", (hts (.classLink RL 21 "java/lang/IllegalArgumentException") (List.mem_of_getElem? (i := 2) (by decide +kernel))), hN ("java/util/NoSuchElementException", "java/lang/IllegalArgumentException") (by decide)⟩, (List.forall_mem_cons.mpr ⟨⟨by decide, "java/lang/IllegalStateException", (hts (.classLink RL 23 "java/lang/IllegalStateException") (List.mem_of_getElem? (i := 3) (by decide +kernel))), hN ("java/util/NoSuchElementException", "java/lang/IllegalStateException") (by decide)⟩, (List.forall_mem_nil _)⟩)⟩)⟩) (by decide) (by decide) (hts (.classLink RL 52 "java/util/NoSuchElementException") (List.mem_of_getElem? (i := 4) (by decide +kernel))) (q_qw hC (by decide +kernel)) (fun H1 locs q9 hz hk hS => ?_)
  refine lv_astore (lv' := [(4, .ref (q9)), (0, .ref (ad 0 0)), (1, .int (nI 4)), (2, .int (nI p0)), (3, .int (bq))]) hx hb dL_ask_26 hl (by decide) rfl (fun ls hl => ?_)
  refine lv_sipush (v := -2005) hx hb dL_ask_28 (by decide) ?_
  exact W.iret hx hb hr (fun t ht _ => ⟨rfl, by rw [ht]; exact ⟨hz, hk⟩⟩) hS.2.2 dL_ask_31
set_option maxHeartbeats 4000000 in
set_option maxRecDepth 100000 in
theorem ax_patterns1 (l : Launch) (hst : l.stackTraces = false) (G : QG) (es : Nat) (A : Nat → Prop) (σ ad : QSt) (hF : qWF σ) (x : Int32) (hbad : ¬ (nI 0 ≤ x ∧ x ≤ nI 3)) (bq : Int32) : vx_Met l yL_asked wsL_asked ({ frames := 8, cells := 1, slots := 6, locals := 126 } : Room) (qX G es A σ ad [.ref (ad 0 0), .int (nI 2), .int (x), .int (bq)]) qNR (qXX "java/lang/IllegalArgumentException") 1 6 A := by
  refine vx_ofW (cc := cL_asked) (maxL := 4) (ret := (some .int)) (by decide) rfl ?_
  intro p e s m args below meth c s₁ B hml htab hv
  obtain ⟨rfl, hC, hW, hZ, hT⟩ := hv
  have hx := B.exec
  have hb := B.bytes
  have hts := atoms_spec (ws := wsL_asked) B.pre
  have hown : s.vm.findClass RL = some m.cls := findClass_of_methodNamed B.named
  have hlocks := B.notSynchronized
  have hS : va_S A s.heap s.heap [] := va_S.rf
  have hl := lv_entry ([.ref (ad 0 0), .int (nI 2), .int (x), .int (bq)]) (n := 4) (Nat.le_of_ble_eq_true rfl)
  rw [lg_entry_eq]
  generalize (lg_sl ([.ref (ad 0 0), .int (nI 2), .int (x), .int (bq)]) ++ List.replicate (4 - (lg_sl ([.ref (ad 0 0), .int (nI 2), .int (x), .int (bq)])).length) Slot.unset).toArray = ls at hl ⊢
  have hl : lv_has ls 4 [(0, .ref (ad 0 0)), (1, .int (nI 2)), (2, .int (x)), (3, .int (bq))] := hl
  refine lv_iload_n hx hb dL_asked_0 rfl (lv_at hl 1 rfl) ?_
  refine lv_tableIn (off := 95) (tgt := 96) hx hb dL_asked_1 (by decide +kernel) (by decide +kernel) (by decide +kernel) (by decide) ?_
  refine lv_aload_n hx hb dL_asked_96 rfl (lv_at hl 0 rfl) ?_
  refine lv_iload_n hx hb dL_asked_97 rfl (lv_at hl 2 rfl) ?_
  exact q_xo (vx_runV (As := [.int (x)]) (rest := []) ⟨hx, hb, hml, hown, hts⟩ (x_patterns1 l hst G es A σ ad hF x hbad) (cwV 1 hts gL_asked_X7_patterns rfl rfl rfl (by decide +kernel) ⟨Nat.le_of_ble_eq_true rfl, Nat.le_of_ble_eq_true rfl⟩) ⟨qX.blind, qrecv hC (hW.to qLV0) rfl, qX.pre hC hW hZ hT⟩ rfl rfl hl.1 rfl (lv_room (Nat.le_of_ble_eq_true rfl)) dL_asked_98 ⟨Nat.le_of_ble_eq_true rfl, Nat.le_of_ble_eq_true rfl⟩) hS (fun _ h => h) htab hlocks
set_option maxHeartbeats 4000000 in
set_option maxRecDepth 100000 in
theorem bx_patterns1 (l : Launch) (hst : l.stackTraces = false) (G : QG) (es : Nat) (A : Nat → Prop) (σ ad : QSt) (hF : qWF σ) (x : Int32) (hbad : ¬ (nI 0 ≤ x ∧ x ≤ nI 3)) (bq : Int32) : Met l yL_ask wsL_ask ({ frames := 9, cells := 1, slots := 6, locals := 149 } : Room) (qAk G es A σ ad [.ref (ad 0 0), .int (nI 2), .int (x), .int (bq)]) (qAP (some (.int (-2002)))) 1 6 A := by
  refine q_ofWH (cc := cL_ask) (maxL := 5) (ret := (some .int)) (hh := [(0, 7, 8, 118), (0, 7, 14, 21), (0, 7, 20, 23), (0, 7, 26, 52)]) (by decide) rfl ?_
  intro p e s m args below meth c s₁ B hml htab hv
  obtain ⟨rfl, hC, hW, hZ, hA, hT, hN⟩ := hv
  have hx := B.exec
  have hb := B.bytes
  have hr := B.returns
  have hts := atoms_spec (ws := wsL_ask) B.pre
  have hown : s.vm.findClass RL = some m.cls := findClass_of_methodNamed B.named
  have hlocks := B.notSynchronized
  have hS : va_S A s.heap s.heap [] := va_S.rf
  have hl := lv_entry ([.ref (ad 0 0), .int (nI 2), .int (x), .int (bq)]) (n := 5) (Nat.le_of_ble_eq_true rfl)
  rw [lg_entry_eq]
  generalize (lg_sl ([.ref (ad 0 0), .int (nI 2), .int (x), .int (bq)]) ++ List.replicate (5 - (lg_sl ([.ref (ad 0 0), .int (nI 2), .int (x), .int (bq)])).length) Slot.unset).toArray = ls at hl ⊢
  have hl : lv_has ls 5 [(0, .ref (ad 0 0)), (1, .int (nI 2)), (2, .int (x)), (3, .int (bq))] := hl
  refine lv_aload_n hx hb dL_ask_0 rfl (lv_at hl 0 rfl) ?_
  refine lv_iload_n hx hb dL_ask_1 rfl (lv_at hl 1 rfl) ?_
  refine lv_iload_n hx hb dL_ask_2 rfl (lv_at hl 2 rfl) ?_
  refine lv_iload_n hx hb dL_ask_3 rfl (lv_at hl 3 rfl) ?_
  refine q_xcatch (D := A) (a := [(0, 7, 8, 118)]) (h := (0, 7, 14, 21)) (b := [(0, 7, 20, 23), (0, 7, 26, 52)]) (vx_runS (As := [.ref (ad 0 0), .int (nI 2), .int (x), .int (bq)]) (rest := []) ⟨hx, hb, hml, hown, hts⟩ (ax_patterns1 l hst G es A σ ad hF x hbad bq) (va_cwS 4 hts gL_ask_L_asked rfl rfl rfl (by decide +kernel) ⟨Nat.le_of_ble_eq_true rfl, Nat.le_of_ble_eq_true rfl⟩) ⟨qX.blind, qX.pre hC hW hZ hT⟩ rfl rfl hl.1 rfl (lv_room (Nat.le_of_ble_eq_true rfl)) dL_ask_4 ⟨Nat.le_of_ble_eq_true rfl, Nat.le_of_ble_eq_true rfl⟩) hS (fun _ h => h) hown htab rfl (List.forall_mem_cons.mpr ⟨⟨by decide, "java/lang/IndexOutOfBoundsException", (hts (.classLink RL 118 "java/lang/IndexOutOfBoundsException") (List.mem_of_getElem? (i := 1) (by decide +kernel))), hN ("java/lang/IllegalArgumentException", "java/lang/IndexOutOfBoundsException") (by decide)⟩, (List.forall_mem_nil _)⟩) (by decide) (by decide) (hts (.classLink RL 21 "java/lang/IllegalArgumentException") (List.mem_of_getElem? (i := 2) (by decide +kernel))) (q_qw hC (by decide +kernel)) (fun H1 locs q9 hz hk hS => ?_)
  refine lv_astore (lv' := [(4, .ref (q9)), (0, .ref (ad 0 0)), (1, .int (nI 2)), (2, .int (x)), (3, .int (bq))]) hx hb dL_ask_14 hl (by decide) rfl (fun ls hl => ?_)
  refine lv_sipush (v := -2002) hx hb dL_ask_16 (by decide) ?_
  exact W.iret hx hb hr (fun t ht _ => ⟨rfl, by rw [ht]; exact ⟨hz, hk⟩⟩) hS.2.2 dL_ask_19
set_option maxHeartbeats 4000000 in
set_option maxRecDepth 100000 in
theorem ax_wordAt2 (l : Launch) (hst : l.stackTraces = false) (G : QG) (es : Nat) (A : Nat → Prop) (σ ad : QSt) (hF : qWF σ) (p0 : Nat) (hp : p0 < σ 0 1) (hm : σ 97 p0 = 0) (y : Int32) (hbad : ¬ (nI 0 ≤ y ∧ y ≤ nI 2)) : vx_Met l yL_asked wsL_asked ({ frames := 8, cells := 1, slots := 6, locals := 125 } : Room) (qX G es A σ ad [.ref (ad 0 0), .int (nI 3), .int (nI p0), .int (y)]) qNR (qXX "java/lang/IllegalArgumentException") 1 6 A := by
  refine vx_ofW (cc := cL_asked) (maxL := 4) (ret := (some .int)) (by decide) rfl ?_
  intro p e s m args below meth c s₁ B hml htab hv
  obtain ⟨rfl, hC, hW, hZ, hT⟩ := hv
  have hx := B.exec
  have hb := B.bytes
  have hts := atoms_spec (ws := wsL_asked) B.pre
  have hown : s.vm.findClass RL = some m.cls := findClass_of_methodNamed B.named
  have hlocks := B.notSynchronized
  have hS : va_S A s.heap s.heap [] := va_S.rf
  have hl := lv_entry ([.ref (ad 0 0), .int (nI 3), .int (nI p0), .int (y)]) (n := 4) (Nat.le_of_ble_eq_true rfl)
  rw [lg_entry_eq]
  generalize (lg_sl ([.ref (ad 0 0), .int (nI 3), .int (nI p0), .int (y)]) ++ List.replicate (4 - (lg_sl ([.ref (ad 0 0), .int (nI 3), .int (nI p0), .int (y)])).length) Slot.unset).toArray = ls at hl ⊢
  have hl : lv_has ls 4 [(0, .ref (ad 0 0)), (1, .int (nI 3)), (2, .int (nI p0)), (3, .int (y))] := hl
  refine lv_iload_n hx hb dL_asked_0 rfl (lv_at hl 1 rfl) ?_
  refine lv_tableIn (off := 101) (tgt := 102) hx hb dL_asked_1 (by decide +kernel) (by decide +kernel) (by decide +kernel) (by decide) ?_
  refine lv_aload_n hx hb dL_asked_102 rfl (lv_at hl 0 rfl) ?_
  refine lv_iload_n hx hb dL_asked_103 rfl (lv_at hl 2 rfl) ?_
  refine lv_iload_n hx hb dL_asked_104 rfl (lv_at hl 3 rfl) ?_
  exact q_xo (vx_runV (As := [.int (nI p0), .int (y)]) (rest := []) ⟨hx, hb, hml, hown, hts⟩ (x_wordAt2 l hst G es A σ ad hF p0 hp hm y hbad) (cwV 2 hts gL_asked_X7_wordAt rfl rfl rfl (by decide +kernel) ⟨Nat.le_of_ble_eq_true rfl, Nat.le_of_ble_eq_true rfl⟩) ⟨qX.blind, qrecv hC (hW.to qLV0) rfl, qX.pre hC hW hZ hT⟩ rfl rfl hl.1 rfl (lv_room (Nat.le_of_ble_eq_true rfl)) dL_asked_105 ⟨Nat.le_of_ble_eq_true rfl, Nat.le_of_ble_eq_true rfl⟩) hS (fun _ h => h) htab hlocks
set_option maxHeartbeats 4000000 in
set_option maxRecDepth 100000 in
theorem bx_wordAt2 (l : Launch) (hst : l.stackTraces = false) (G : QG) (es : Nat) (A : Nat → Prop) (σ ad : QSt) (hF : qWF σ) (p0 : Nat) (hp : p0 < σ 0 1) (hm : σ 97 p0 = 0) (y : Int32) (hbad : ¬ (nI 0 ≤ y ∧ y ≤ nI 2)) : Met l yL_ask wsL_ask ({ frames := 9, cells := 1, slots := 6, locals := 148 } : Room) (qAk G es A σ ad [.ref (ad 0 0), .int (nI 3), .int (nI p0), .int (y)]) (qAP (some (.int (-2002)))) 1 6 A := by
  refine q_ofWH (cc := cL_ask) (maxL := 5) (ret := (some .int)) (hh := [(0, 7, 8, 118), (0, 7, 14, 21), (0, 7, 20, 23), (0, 7, 26, 52)]) (by decide) rfl ?_
  intro p e s m args below meth c s₁ B hml htab hv
  obtain ⟨rfl, hC, hW, hZ, hA, hT, hN⟩ := hv
  have hx := B.exec
  have hb := B.bytes
  have hr := B.returns
  have hts := atoms_spec (ws := wsL_ask) B.pre
  have hown : s.vm.findClass RL = some m.cls := findClass_of_methodNamed B.named
  have hlocks := B.notSynchronized
  have hS : va_S A s.heap s.heap [] := va_S.rf
  have hl := lv_entry ([.ref (ad 0 0), .int (nI 3), .int (nI p0), .int (y)]) (n := 5) (Nat.le_of_ble_eq_true rfl)
  rw [lg_entry_eq]
  generalize (lg_sl ([.ref (ad 0 0), .int (nI 3), .int (nI p0), .int (y)]) ++ List.replicate (5 - (lg_sl ([.ref (ad 0 0), .int (nI 3), .int (nI p0), .int (y)])).length) Slot.unset).toArray = ls at hl ⊢
  have hl : lv_has ls 5 [(0, .ref (ad 0 0)), (1, .int (nI 3)), (2, .int (nI p0)), (3, .int (y))] := hl
  refine lv_aload_n hx hb dL_ask_0 rfl (lv_at hl 0 rfl) ?_
  refine lv_iload_n hx hb dL_ask_1 rfl (lv_at hl 1 rfl) ?_
  refine lv_iload_n hx hb dL_ask_2 rfl (lv_at hl 2 rfl) ?_
  refine lv_iload_n hx hb dL_ask_3 rfl (lv_at hl 3 rfl) ?_
  refine q_xcatch (D := A) (a := [(0, 7, 8, 118)]) (h := (0, 7, 14, 21)) (b := [(0, 7, 20, 23), (0, 7, 26, 52)]) (vx_runS (As := [.ref (ad 0 0), .int (nI 3), .int (nI p0), .int (y)]) (rest := []) ⟨hx, hb, hml, hown, hts⟩ (ax_wordAt2 l hst G es A σ ad hF p0 hp hm y hbad) (va_cwS 4 hts gL_ask_L_asked rfl rfl rfl (by decide +kernel) ⟨Nat.le_of_ble_eq_true rfl, Nat.le_of_ble_eq_true rfl⟩) ⟨qX.blind, qX.pre hC hW hZ hT⟩ rfl rfl hl.1 rfl (lv_room (Nat.le_of_ble_eq_true rfl)) dL_ask_4 ⟨Nat.le_of_ble_eq_true rfl, Nat.le_of_ble_eq_true rfl⟩) hS (fun _ h => h) hown htab rfl (List.forall_mem_cons.mpr ⟨⟨by decide, "java/lang/IndexOutOfBoundsException", (hts (.classLink RL 118 "java/lang/IndexOutOfBoundsException") (List.mem_of_getElem? (i := 1) (by decide +kernel))), hN ("java/lang/IllegalArgumentException", "java/lang/IndexOutOfBoundsException") (by decide)⟩, (List.forall_mem_nil _)⟩) (by decide) (by decide) (hts (.classLink RL 21 "java/lang/IllegalArgumentException") (List.mem_of_getElem? (i := 2) (by decide +kernel))) (q_qw hC (by decide +kernel)) (fun H1 locs q9 hz hk hS => ?_)
  refine lv_astore (lv' := [(4, .ref (q9)), (0, .ref (ad 0 0)), (1, .int (nI 3)), (2, .int (nI p0)), (3, .int (y))]) hx hb dL_ask_14 hl (by decide) rfl (fun ls hl => ?_)
  refine lv_sipush (v := -2002) hx hb dL_ask_16 (by decide) ?_
  exact W.iret hx hb hr (fun t ht _ => ⟨rfl, by rw [ht]; exact ⟨hz, hk⟩⟩) hS.2.2 dL_ask_19
set_option maxHeartbeats 4000000 in
set_option maxRecDepth 100000 in
theorem ax_alertState1 (l : Launch) (hst : l.stackTraces = false) (G : QG) (es : Nat) (A : Nat → Prop) (σ ad : QSt) (hF : qWF σ) (x : Int32) (hx0 : ¬ rIn x (σ 0 2)) (bq : Int32) : vx_Met l yL_asked wsL_asked ({ frames := 8, cells := 1, slots := 6, locals := 124 } : Room) (qX G es A σ ad [.ref (ad 0 0), .int (nI 9), .int (x), .int (bq)]) qNR (qXX "java/lang/IndexOutOfBoundsException") 1 6 A := by
  refine vx_ofW (cc := cL_asked) (maxL := 4) (ret := (some .int)) (by decide) rfl ?_
  intro p e s m args below meth c s₁ B hml htab hv
  obtain ⟨rfl, hC, hW, hZ, hT⟩ := hv
  have hx := B.exec
  have hb := B.bytes
  have hts := atoms_spec (ws := wsL_asked) B.pre
  have hown : s.vm.findClass RL = some m.cls := findClass_of_methodNamed B.named
  have hlocks := B.notSynchronized
  have hS : va_S A s.heap s.heap [] := va_S.rf
  have hl := lv_entry ([.ref (ad 0 0), .int (nI 9), .int (x), .int (bq)]) (n := 4) (Nat.le_of_ble_eq_true rfl)
  rw [lg_entry_eq]
  generalize (lg_sl ([.ref (ad 0 0), .int (nI 9), .int (x), .int (bq)]) ++ List.replicate (4 - (lg_sl ([.ref (ad 0 0), .int (nI 9), .int (x), .int (bq)])).length) Slot.unset).toArray = ls at hl ⊢
  have hl : lv_has ls 4 [(0, .ref (ad 0 0)), (1, .int (nI 9)), (2, .int (x)), (3, .int (bq))] := hl
  refine lv_iload_n hx hb dL_asked_0 rfl (lv_at hl 1 rfl) ?_
  refine lv_tableIn (off := 139) (tgt := 140) hx hb dL_asked_1 (by decide +kernel) (by decide +kernel) (by decide +kernel) (by decide) ?_
  refine lv_aload_n hx hb dL_asked_140 rfl (lv_at hl 0 rfl) ?_
  refine lv_iload_n hx hb dL_asked_141 rfl (lv_at hl 2 rfl) ?_
  exact q_xo (vx_runV (As := [.int (x)]) (rest := []) ⟨hx, hb, hml, hown, hts⟩ (x_alertState1 l hst G es A σ ad hF x hx0) (cwV 1 hts gL_asked_X7_alertState rfl rfl rfl (by decide +kernel) ⟨Nat.le_of_ble_eq_true rfl, Nat.le_of_ble_eq_true rfl⟩) ⟨qX.blind, qrecv hC (hW.to qLV0) rfl, qX.pre hC hW hZ hT⟩ rfl rfl hl.1 rfl (lv_room (Nat.le_of_ble_eq_true rfl)) dL_asked_142 ⟨Nat.le_of_ble_eq_true rfl, Nat.le_of_ble_eq_true rfl⟩) hS (fun _ h => h) htab hlocks
set_option maxHeartbeats 4000000 in
set_option maxRecDepth 100000 in
theorem bx_alertState1 (l : Launch) (hst : l.stackTraces = false) (G : QG) (es : Nat) (A : Nat → Prop) (σ ad : QSt) (hF : qWF σ) (x : Int32) (hx0 : ¬ rIn x (σ 0 2)) (bq : Int32) : Met l yL_ask wsL_ask ({ frames := 9, cells := 1, slots := 6, locals := 147 } : Room) (qAk G es A σ ad [.ref (ad 0 0), .int (nI 9), .int (x), .int (bq)]) (qAP (some (.int (-2001)))) 1 6 A := by
  refine q_ofWH (cc := cL_ask) (maxL := 5) (ret := (some .int)) (hh := [(0, 7, 8, 118), (0, 7, 14, 21), (0, 7, 20, 23), (0, 7, 26, 52)]) (by decide) rfl ?_
  intro p e s m args below meth c s₁ B hml htab hv
  obtain ⟨rfl, hC, hW, hZ, hA, hT, hN⟩ := hv
  have hx := B.exec
  have hb := B.bytes
  have hr := B.returns
  have hts := atoms_spec (ws := wsL_ask) B.pre
  have hown : s.vm.findClass RL = some m.cls := findClass_of_methodNamed B.named
  have hlocks := B.notSynchronized
  have hS : va_S A s.heap s.heap [] := va_S.rf
  have hl := lv_entry ([.ref (ad 0 0), .int (nI 9), .int (x), .int (bq)]) (n := 5) (Nat.le_of_ble_eq_true rfl)
  rw [lg_entry_eq]
  generalize (lg_sl ([.ref (ad 0 0), .int (nI 9), .int (x), .int (bq)]) ++ List.replicate (5 - (lg_sl ([.ref (ad 0 0), .int (nI 9), .int (x), .int (bq)])).length) Slot.unset).toArray = ls at hl ⊢
  have hl : lv_has ls 5 [(0, .ref (ad 0 0)), (1, .int (nI 9)), (2, .int (x)), (3, .int (bq))] := hl
  refine lv_aload_n hx hb dL_ask_0 rfl (lv_at hl 0 rfl) ?_
  refine lv_iload_n hx hb dL_ask_1 rfl (lv_at hl 1 rfl) ?_
  refine lv_iload_n hx hb dL_ask_2 rfl (lv_at hl 2 rfl) ?_
  refine lv_iload_n hx hb dL_ask_3 rfl (lv_at hl 3 rfl) ?_
  refine q_xcatch (D := A) (a := []) (h := (0, 7, 8, 118)) (b := [(0, 7, 14, 21), (0, 7, 20, 23), (0, 7, 26, 52)]) (vx_runS (As := [.ref (ad 0 0), .int (nI 9), .int (x), .int (bq)]) (rest := []) ⟨hx, hb, hml, hown, hts⟩ (ax_alertState1 l hst G es A σ ad hF x hx0 bq) (va_cwS 4 hts gL_ask_L_asked rfl rfl rfl (by decide +kernel) ⟨Nat.le_of_ble_eq_true rfl, Nat.le_of_ble_eq_true rfl⟩) ⟨qX.blind, qX.pre hC hW hZ hT⟩ rfl rfl hl.1 rfl (lv_room (Nat.le_of_ble_eq_true rfl)) dL_ask_4 ⟨Nat.le_of_ble_eq_true rfl, Nat.le_of_ble_eq_true rfl⟩) hS (fun _ h => h) hown htab rfl (List.forall_mem_nil _) (by decide) (by decide) (hts (.classLink RL 118 "java/lang/IndexOutOfBoundsException") (List.mem_of_getElem? (i := 1) (by decide +kernel))) (q_qw hC (by decide +kernel)) (fun H1 locs q9 hz hk hS => ?_)
  refine lv_astore (lv' := [(4, .ref (q9)), (0, .ref (ad 0 0)), (1, .int (nI 9)), (2, .int (x)), (3, .int (bq))]) hx hb dL_ask_8 hl (by decide) rfl (fun ls hl => ?_)
  refine lv_sipush (v := -2001) hx hb dL_ask_10 (by decide) ?_
  exact W.iret hx hb hr (fun t ht _ => ⟨rfl, by rw [ht]; exact ⟨hz, hk⟩⟩) hS.2.2 dL_ask_13
set_option maxHeartbeats 4000000 in
set_option maxRecDepth 100000 in
theorem ax_alertOf1 (l : Launch) (hst : l.stackTraces = false) (G : QG) (es : Nat) (A : Nat → Prop) (σ ad : QSt) (hF : qWF σ) (x : Int32) (hx0 : ¬ rIn x (σ 0 3)) (bq : Int32) : vx_Met l yL_asked wsL_asked ({ frames := 8, cells := 1, slots := 6, locals := 124 } : Room) (qX G es A σ ad [.ref (ad 0 0), .int (nI 13), .int (x), .int (bq)]) qNR (qXX "java/util/NoSuchElementException") 1 6 A := by
  refine vx_ofW (cc := cL_asked) (maxL := 4) (ret := (some .int)) (by decide) rfl ?_
  intro p e s m args below meth c s₁ B hml htab hv
  obtain ⟨rfl, hC, hW, hZ, hT⟩ := hv
  have hx := B.exec
  have hb := B.bytes
  have hts := atoms_spec (ws := wsL_asked) B.pre
  have hown : s.vm.findClass RL = some m.cls := findClass_of_methodNamed B.named
  have hlocks := B.notSynchronized
  have hS : va_S A s.heap s.heap [] := va_S.rf
  have hl := lv_entry ([.ref (ad 0 0), .int (nI 13), .int (x), .int (bq)]) (n := 4) (Nat.le_of_ble_eq_true rfl)
  rw [lg_entry_eq]
  generalize (lg_sl ([.ref (ad 0 0), .int (nI 13), .int (x), .int (bq)]) ++ List.replicate (4 - (lg_sl ([.ref (ad 0 0), .int (nI 13), .int (x), .int (bq)])).length) Slot.unset).toArray = ls at hl ⊢
  have hl : lv_has ls 4 [(0, .ref (ad 0 0)), (1, .int (nI 13)), (2, .int (x)), (3, .int (bq))] := hl
  refine lv_iload_n hx hb dL_asked_0 rfl (lv_at hl 1 rfl) ?_
  refine lv_tableIn (off := 163) (tgt := 164) hx hb dL_asked_1 (by decide +kernel) (by decide +kernel) (by decide +kernel) (by decide) ?_
  refine lv_aload_n hx hb dL_asked_164 rfl (lv_at hl 0 rfl) ?_
  refine lv_iload_n hx hb dL_asked_165 rfl (lv_at hl 2 rfl) ?_
  exact q_xo (vx_runV (As := [.int (x)]) (rest := []) ⟨hx, hb, hml, hown, hts⟩ (x_alertOf1 l hst G es A σ ad hF x hx0) (cwV 1 hts gL_asked_X7_alertOf rfl rfl rfl (by decide +kernel) ⟨Nat.le_of_ble_eq_true rfl, Nat.le_of_ble_eq_true rfl⟩) ⟨qX.blind, qrecv hC (hW.to qLV0) rfl, qX.pre hC hW hZ hT⟩ rfl rfl hl.1 rfl (lv_room (Nat.le_of_ble_eq_true rfl)) dL_asked_166 ⟨Nat.le_of_ble_eq_true rfl, Nat.le_of_ble_eq_true rfl⟩) hS (fun _ h => h) htab hlocks
set_option maxHeartbeats 4000000 in
set_option maxRecDepth 100000 in
theorem bx_alertOf1 (l : Launch) (hst : l.stackTraces = false) (G : QG) (es : Nat) (A : Nat → Prop) (σ ad : QSt) (hF : qWF σ) (x : Int32) (hx0 : ¬ rIn x (σ 0 3)) (bq : Int32) : Met l yL_ask wsL_ask ({ frames := 9, cells := 1, slots := 6, locals := 147 } : Room) (qAk G es A σ ad [.ref (ad 0 0), .int (nI 13), .int (x), .int (bq)]) (qAP (some (.int (-2005)))) 1 6 A := by
  refine q_ofWH (cc := cL_ask) (maxL := 5) (ret := (some .int)) (hh := [(0, 7, 8, 118), (0, 7, 14, 21), (0, 7, 20, 23), (0, 7, 26, 52)]) (by decide) rfl ?_
  intro p e s m args below meth c s₁ B hml htab hv
  obtain ⟨rfl, hC, hW, hZ, hA, hT, hN⟩ := hv
  have hx := B.exec
  have hb := B.bytes
  have hr := B.returns
  have hts := atoms_spec (ws := wsL_ask) B.pre
  have hown : s.vm.findClass RL = some m.cls := findClass_of_methodNamed B.named
  have hlocks := B.notSynchronized
  have hS : va_S A s.heap s.heap [] := va_S.rf
  have hl := lv_entry ([.ref (ad 0 0), .int (nI 13), .int (x), .int (bq)]) (n := 5) (Nat.le_of_ble_eq_true rfl)
  rw [lg_entry_eq]
  generalize (lg_sl ([.ref (ad 0 0), .int (nI 13), .int (x), .int (bq)]) ++ List.replicate (5 - (lg_sl ([.ref (ad 0 0), .int (nI 13), .int (x), .int (bq)])).length) Slot.unset).toArray = ls at hl ⊢
  have hl : lv_has ls 5 [(0, .ref (ad 0 0)), (1, .int (nI 13)), (2, .int (x)), (3, .int (bq))] := hl
  refine lv_aload_n hx hb dL_ask_0 rfl (lv_at hl 0 rfl) ?_
  refine lv_iload_n hx hb dL_ask_1 rfl (lv_at hl 1 rfl) ?_
  refine lv_iload_n hx hb dL_ask_2 rfl (lv_at hl 2 rfl) ?_
  refine lv_iload_n hx hb dL_ask_3 rfl (lv_at hl 3 rfl) ?_
  refine q_xcatch (D := A) (a := [(0, 7, 8, 118), (0, 7, 14, 21), (0, 7, 20, 23)]) (h := (0, 7, 26, 52)) (b := []) (vx_runS (As := [.ref (ad 0 0), .int (nI 13), .int (x), .int (bq)]) (rest := []) ⟨hx, hb, hml, hown, hts⟩ (ax_alertOf1 l hst G es A σ ad hF x hx0 bq) (va_cwS 4 hts gL_ask_L_asked rfl rfl rfl (by decide +kernel) ⟨Nat.le_of_ble_eq_true rfl, Nat.le_of_ble_eq_true rfl⟩) ⟨qX.blind, qX.pre hC hW hZ hT⟩ rfl rfl hl.1 rfl (lv_room (Nat.le_of_ble_eq_true rfl)) dL_ask_4 ⟨Nat.le_of_ble_eq_true rfl, Nat.le_of_ble_eq_true rfl⟩) hS (fun _ h => h) hown htab rfl (List.forall_mem_cons.mpr ⟨⟨by decide, "java/lang/IndexOutOfBoundsException", (hts (.classLink RL 118 "java/lang/IndexOutOfBoundsException") (List.mem_of_getElem? (i := 1) (by decide +kernel))), hN ("java/util/NoSuchElementException", "java/lang/IndexOutOfBoundsException") (by decide)⟩, (List.forall_mem_cons.mpr ⟨⟨by decide, "java/lang/IllegalArgumentException", (hts (.classLink RL 21 "java/lang/IllegalArgumentException") (List.mem_of_getElem? (i := 2) (by decide +kernel))), hN ("java/util/NoSuchElementException", "java/lang/IllegalArgumentException") (by decide)⟩, (List.forall_mem_cons.mpr ⟨⟨by decide, "java/lang/IllegalStateException", (hts (.classLink RL 23 "java/lang/IllegalStateException") (List.mem_of_getElem? (i := 3) (by decide +kernel))), hN ("java/util/NoSuchElementException", "java/lang/IllegalStateException") (by decide)⟩, (List.forall_mem_nil _)⟩)⟩)⟩) (by decide) (by decide) (hts (.classLink RL 52 "java/util/NoSuchElementException") (List.mem_of_getElem? (i := 4) (by decide +kernel))) (q_qw hC (by decide +kernel)) (fun H1 locs q9 hz hk hS => ?_)
  refine lv_astore (lv' := [(4, .ref (q9)), (0, .ref (ad 0 0)), (1, .int (nI 13)), (2, .int (x)), (3, .int (bq))]) hx hb dL_ask_26 hl (by decide) rfl (fun ls hl => ?_)
  refine lv_sipush (v := -2005) hx hb dL_ask_28 (by decide) ?_
  exact W.iret hx hb hr (fun t ht _ => ⟨rfl, by rw [ht]; exact ⟨hz, hk⟩⟩) hS.2.2 dL_ask_31
set_option maxHeartbeats 4000000 in
set_option maxRecDepth 100000 in
theorem ax_isGuarded1 (l : Launch) (hst : l.stackTraces = false) (G : QG) (es : Nat) (A : Nat → Prop) (σ ad : QSt) (hF : qWF σ) (x : Int32) (hx0 : ¬ rIn x (σ 0 0)) (bq : Int32) : vx_Met l yL_asked wsL_asked ({ frames := 8, cells := 1, slots := 6, locals := 124 } : Room) (qX G es A σ ad [.ref (ad 0 0), .int (nI 17), .int (x), .int (bq)]) qNR (qXX "java/util/NoSuchElementException") 1 6 A := by
  refine vx_ofW (cc := cL_asked) (maxL := 4) (ret := (some .int)) (by decide) rfl ?_
  intro p e s m args below meth c s₁ B hml htab hv
  obtain ⟨rfl, hC, hW, hZ, hT⟩ := hv
  have hx := B.exec
  have hb := B.bytes
  have hts := atoms_spec (ws := wsL_asked) B.pre
  have hown : s.vm.findClass RL = some m.cls := findClass_of_methodNamed B.named
  have hlocks := B.notSynchronized
  have hS : va_S A s.heap s.heap [] := va_S.rf
  have hl := lv_entry ([.ref (ad 0 0), .int (nI 17), .int (x), .int (bq)]) (n := 4) (Nat.le_of_ble_eq_true rfl)
  rw [lg_entry_eq]
  generalize (lg_sl ([.ref (ad 0 0), .int (nI 17), .int (x), .int (bq)]) ++ List.replicate (4 - (lg_sl ([.ref (ad 0 0), .int (nI 17), .int (x), .int (bq)])).length) Slot.unset).toArray = ls at hl ⊢
  have hl : lv_has ls 4 [(0, .ref (ad 0 0)), (1, .int (nI 17)), (2, .int (x)), (3, .int (bq))] := hl
  refine lv_iload_n hx hb dL_asked_0 rfl (lv_at hl 1 rfl) ?_
  refine lv_tableOut (tgt := 192) hx hb dL_asked_1 (by decide +kernel) (by decide) ?_
  refine lv_aload_n hx hb dL_asked_192 rfl (lv_at hl 0 rfl) ?_
  refine lv_iload_n hx hb dL_asked_193 rfl (lv_at hl 2 rfl) ?_
  exact q_xo (vx_runV (As := [.int (x)]) (rest := []) ⟨hx, hb, hml, hown, hts⟩ (x_isGuarded1 l hst G es A σ ad hF x hx0) (cwV 1 hts gL_asked_X7_isGuarded rfl rfl rfl (by decide +kernel) ⟨Nat.le_of_ble_eq_true rfl, Nat.le_of_ble_eq_true rfl⟩) ⟨qX.blind, qrecv hC (hW.to qLV0) rfl, qX.pre hC hW hZ hT⟩ rfl rfl hl.1 rfl (lv_room (Nat.le_of_ble_eq_true rfl)) dL_asked_194 ⟨Nat.le_of_ble_eq_true rfl, Nat.le_of_ble_eq_true rfl⟩) hS (fun _ h => h) htab hlocks
set_option maxHeartbeats 4000000 in
set_option maxRecDepth 100000 in
theorem bx_isGuarded1 (l : Launch) (hst : l.stackTraces = false) (G : QG) (es : Nat) (A : Nat → Prop) (σ ad : QSt) (hF : qWF σ) (x : Int32) (hx0 : ¬ rIn x (σ 0 0)) (bq : Int32) : Met l yL_ask wsL_ask ({ frames := 9, cells := 1, slots := 6, locals := 147 } : Room) (qAk G es A σ ad [.ref (ad 0 0), .int (nI 17), .int (x), .int (bq)]) (qAP (some (.int (-2005)))) 1 6 A := by
  refine q_ofWH (cc := cL_ask) (maxL := 5) (ret := (some .int)) (hh := [(0, 7, 8, 118), (0, 7, 14, 21), (0, 7, 20, 23), (0, 7, 26, 52)]) (by decide) rfl ?_
  intro p e s m args below meth c s₁ B hml htab hv
  obtain ⟨rfl, hC, hW, hZ, hA, hT, hN⟩ := hv
  have hx := B.exec
  have hb := B.bytes
  have hr := B.returns
  have hts := atoms_spec (ws := wsL_ask) B.pre
  have hown : s.vm.findClass RL = some m.cls := findClass_of_methodNamed B.named
  have hlocks := B.notSynchronized
  have hS : va_S A s.heap s.heap [] := va_S.rf
  have hl := lv_entry ([.ref (ad 0 0), .int (nI 17), .int (x), .int (bq)]) (n := 5) (Nat.le_of_ble_eq_true rfl)
  rw [lg_entry_eq]
  generalize (lg_sl ([.ref (ad 0 0), .int (nI 17), .int (x), .int (bq)]) ++ List.replicate (5 - (lg_sl ([.ref (ad 0 0), .int (nI 17), .int (x), .int (bq)])).length) Slot.unset).toArray = ls at hl ⊢
  have hl : lv_has ls 5 [(0, .ref (ad 0 0)), (1, .int (nI 17)), (2, .int (x)), (3, .int (bq))] := hl
  refine lv_aload_n hx hb dL_ask_0 rfl (lv_at hl 0 rfl) ?_
  refine lv_iload_n hx hb dL_ask_1 rfl (lv_at hl 1 rfl) ?_
  refine lv_iload_n hx hb dL_ask_2 rfl (lv_at hl 2 rfl) ?_
  refine lv_iload_n hx hb dL_ask_3 rfl (lv_at hl 3 rfl) ?_
  refine q_xcatch (D := A) (a := [(0, 7, 8, 118), (0, 7, 14, 21), (0, 7, 20, 23)]) (h := (0, 7, 26, 52)) (b := []) (vx_runS (As := [.ref (ad 0 0), .int (nI 17), .int (x), .int (bq)]) (rest := []) ⟨hx, hb, hml, hown, hts⟩ (ax_isGuarded1 l hst G es A σ ad hF x hx0 bq) (va_cwS 4 hts gL_ask_L_asked rfl rfl rfl (by decide +kernel) ⟨Nat.le_of_ble_eq_true rfl, Nat.le_of_ble_eq_true rfl⟩) ⟨qX.blind, qX.pre hC hW hZ hT⟩ rfl rfl hl.1 rfl (lv_room (Nat.le_of_ble_eq_true rfl)) dL_ask_4 ⟨Nat.le_of_ble_eq_true rfl, Nat.le_of_ble_eq_true rfl⟩) hS (fun _ h => h) hown htab rfl (List.forall_mem_cons.mpr ⟨⟨by decide, "java/lang/IndexOutOfBoundsException", (hts (.classLink RL 118 "java/lang/IndexOutOfBoundsException") (List.mem_of_getElem? (i := 1) (by decide +kernel))), hN ("java/util/NoSuchElementException", "java/lang/IndexOutOfBoundsException") (by decide)⟩, (List.forall_mem_cons.mpr ⟨⟨by decide, "java/lang/IllegalArgumentException", (hts (.classLink RL 21 "java/lang/IllegalArgumentException") (List.mem_of_getElem? (i := 2) (by decide +kernel))), hN ("java/util/NoSuchElementException", "java/lang/IllegalArgumentException") (by decide)⟩, (List.forall_mem_cons.mpr ⟨⟨by decide, "java/lang/IllegalStateException", (hts (.classLink RL 23 "java/lang/IllegalStateException") (List.mem_of_getElem? (i := 3) (by decide +kernel))), hN ("java/util/NoSuchElementException", "java/lang/IllegalStateException") (by decide)⟩, (List.forall_mem_nil _)⟩)⟩)⟩) (by decide) (by decide) (hts (.classLink RL 52 "java/util/NoSuchElementException") (List.mem_of_getElem? (i := 4) (by decide +kernel))) (q_qw hC (by decide +kernel)) (fun H1 locs q9 hz hk hS => ?_)
  refine lv_astore (lv' := [(4, .ref (q9)), (0, .ref (ad 0 0)), (1, .int (nI 17)), (2, .int (x)), (3, .int (bq))]) hx hb dL_ask_26 hl (by decide) rfl (fun ls hl => ?_)
  refine lv_sipush (v := -2005) hx hb dL_ask_28 (by decide) ?_
  exact W.iret hx hb hr (fun t ht _ => ⟨rfl, by rw [ht]; exact ⟨hz, hk⟩⟩) hS.2.2 dL_ask_31
set_option maxHeartbeats 4000000 in
set_option maxRecDepth 100000 in
theorem ax_stateOf1 (l : Launch) (hst : l.stackTraces = false) (G : QG) (es : Nat) (A : Nat → Prop) (σ ad : QSt) (hF : qWF σ) (x : Int32) (hx0 : ¬ rIn x (σ 0 0)) (bq : Int32) : vx_Met l yL_asked wsL_asked ({ frames := 8, cells := 1, slots := 6, locals := 124 } : Room) (qX G es A σ ad [.ref (ad 0 0), .int (nI 0), .int (x), .int (bq)]) qNR (qXX "java/util/NoSuchElementException") 1 6 A := by
  refine vx_ofW (cc := cL_asked) (maxL := 4) (ret := (some .int)) (by decide) rfl ?_
  intro p e s m args below meth c s₁ B hml htab hv
  obtain ⟨rfl, hC, hW, hZ, hT⟩ := hv
  have hx := B.exec
  have hb := B.bytes
  have hts := atoms_spec (ws := wsL_asked) B.pre
  have hown : s.vm.findClass RL = some m.cls := findClass_of_methodNamed B.named
  have hlocks := B.notSynchronized
  have hS : va_S A s.heap s.heap [] := va_S.rf
  have hl := lv_entry ([.ref (ad 0 0), .int (nI 0), .int (x), .int (bq)]) (n := 4) (Nat.le_of_ble_eq_true rfl)
  rw [lg_entry_eq]
  generalize (lg_sl ([.ref (ad 0 0), .int (nI 0), .int (x), .int (bq)]) ++ List.replicate (4 - (lg_sl ([.ref (ad 0 0), .int (nI 0), .int (x), .int (bq)])).length) Slot.unset).toArray = ls at hl ⊢
  have hl : lv_has ls 4 [(0, .ref (ad 0 0)), (1, .int (nI 0)), (2, .int (x)), (3, .int (bq))] := hl
  refine lv_iload_n hx hb dL_asked_0 rfl (lv_at hl 1 rfl) ?_
  refine lv_tableIn (off := 83) (tgt := 84) hx hb dL_asked_1 (by decide +kernel) (by decide +kernel) (by decide +kernel) (by decide) ?_
  refine lv_aload_n hx hb dL_asked_84 rfl (lv_at hl 0 rfl) ?_
  refine lv_iload_n hx hb dL_asked_85 rfl (lv_at hl 2 rfl) ?_
  exact q_xo (vx_runV (As := [.int (x)]) (rest := []) ⟨hx, hb, hml, hown, hts⟩ (x_stateOf1 l hst G es A σ ad hF x hx0) (cwV 1 hts gL_asked_X7_stateOf rfl rfl rfl (by decide +kernel) ⟨Nat.le_of_ble_eq_true rfl, Nat.le_of_ble_eq_true rfl⟩) ⟨qX.blind, qrecv hC (hW.to qLV0) rfl, qX.pre hC hW hZ hT⟩ rfl rfl hl.1 rfl (lv_room (Nat.le_of_ble_eq_true rfl)) dL_asked_86 ⟨Nat.le_of_ble_eq_true rfl, Nat.le_of_ble_eq_true rfl⟩) hS (fun _ h => h) htab hlocks
set_option maxHeartbeats 4000000 in
set_option maxRecDepth 100000 in
theorem bx_stateOf1 (l : Launch) (hst : l.stackTraces = false) (G : QG) (es : Nat) (A : Nat → Prop) (σ ad : QSt) (hF : qWF σ) (x : Int32) (hx0 : ¬ rIn x (σ 0 0)) (bq : Int32) : Met l yL_ask wsL_ask ({ frames := 9, cells := 1, slots := 6, locals := 147 } : Room) (qAk G es A σ ad [.ref (ad 0 0), .int (nI 0), .int (x), .int (bq)]) (qAP (some (.int (-2005)))) 1 6 A := by
  refine q_ofWH (cc := cL_ask) (maxL := 5) (ret := (some .int)) (hh := [(0, 7, 8, 118), (0, 7, 14, 21), (0, 7, 20, 23), (0, 7, 26, 52)]) (by decide) rfl ?_
  intro p e s m args below meth c s₁ B hml htab hv
  obtain ⟨rfl, hC, hW, hZ, hA, hT, hN⟩ := hv
  have hx := B.exec
  have hb := B.bytes
  have hr := B.returns
  have hts := atoms_spec (ws := wsL_ask) B.pre
  have hown : s.vm.findClass RL = some m.cls := findClass_of_methodNamed B.named
  have hlocks := B.notSynchronized
  have hS : va_S A s.heap s.heap [] := va_S.rf
  have hl := lv_entry ([.ref (ad 0 0), .int (nI 0), .int (x), .int (bq)]) (n := 5) (Nat.le_of_ble_eq_true rfl)
  rw [lg_entry_eq]
  generalize (lg_sl ([.ref (ad 0 0), .int (nI 0), .int (x), .int (bq)]) ++ List.replicate (5 - (lg_sl ([.ref (ad 0 0), .int (nI 0), .int (x), .int (bq)])).length) Slot.unset).toArray = ls at hl ⊢
  have hl : lv_has ls 5 [(0, .ref (ad 0 0)), (1, .int (nI 0)), (2, .int (x)), (3, .int (bq))] := hl
  refine lv_aload_n hx hb dL_ask_0 rfl (lv_at hl 0 rfl) ?_
  refine lv_iload_n hx hb dL_ask_1 rfl (lv_at hl 1 rfl) ?_
  refine lv_iload_n hx hb dL_ask_2 rfl (lv_at hl 2 rfl) ?_
  refine lv_iload_n hx hb dL_ask_3 rfl (lv_at hl 3 rfl) ?_
  refine q_xcatch (D := A) (a := [(0, 7, 8, 118), (0, 7, 14, 21), (0, 7, 20, 23)]) (h := (0, 7, 26, 52)) (b := []) (vx_runS (As := [.ref (ad 0 0), .int (nI 0), .int (x), .int (bq)]) (rest := []) ⟨hx, hb, hml, hown, hts⟩ (ax_stateOf1 l hst G es A σ ad hF x hx0 bq) (va_cwS 4 hts gL_ask_L_asked rfl rfl rfl (by decide +kernel) ⟨Nat.le_of_ble_eq_true rfl, Nat.le_of_ble_eq_true rfl⟩) ⟨qX.blind, qX.pre hC hW hZ hT⟩ rfl rfl hl.1 rfl (lv_room (Nat.le_of_ble_eq_true rfl)) dL_ask_4 ⟨Nat.le_of_ble_eq_true rfl, Nat.le_of_ble_eq_true rfl⟩) hS (fun _ h => h) hown htab rfl (List.forall_mem_cons.mpr ⟨⟨by decide, "java/lang/IndexOutOfBoundsException", (hts (.classLink RL 118 "java/lang/IndexOutOfBoundsException") (List.mem_of_getElem? (i := 1) (by decide +kernel))), hN ("java/util/NoSuchElementException", "java/lang/IndexOutOfBoundsException") (by decide)⟩, (List.forall_mem_cons.mpr ⟨⟨by decide, "java/lang/IllegalArgumentException", (hts (.classLink RL 21 "java/lang/IllegalArgumentException") (List.mem_of_getElem? (i := 2) (by decide +kernel))), hN ("java/util/NoSuchElementException", "java/lang/IllegalArgumentException") (by decide)⟩, (List.forall_mem_cons.mpr ⟨⟨by decide, "java/lang/IllegalStateException", (hts (.classLink RL 23 "java/lang/IllegalStateException") (List.mem_of_getElem? (i := 3) (by decide +kernel))), hN ("java/util/NoSuchElementException", "java/lang/IllegalStateException") (by decide)⟩, (List.forall_mem_nil _)⟩)⟩)⟩) (by decide) (by decide) (hts (.classLink RL 52 "java/util/NoSuchElementException") (List.mem_of_getElem? (i := 4) (by decide +kernel))) (q_qw hC (by decide +kernel)) (fun H1 locs q9 hz hk hS => ?_)
  refine lv_astore (lv' := [(4, .ref (q9)), (0, .ref (ad 0 0)), (1, .int (nI 0)), (2, .int (x)), (3, .int (bq))]) hx hb dL_ask_26 hl (by decide) rfl (fun ls hl => ?_)
  refine lv_sipush (v := -2005) hx hb dL_ask_28 (by decide) ?_
  exact W.iret hx hb hr (fun t ht _ => ⟨rfl, by rw [ht]; exact ⟨hz, hk⟩⟩) hS.2.2 dL_ask_31
set_option maxHeartbeats 4000000 in
set_option maxRecDepth 100000 in
theorem ax_kept1 (l : Launch) (hst : l.stackTraces = false) (G : QG) (es : Nat) (A : Nat → Prop) (σ ad : QSt) (hF : qWF σ) (x : Int32) (hbad : ¬ (nI 0 ≤ x ∧ x ≤ nI 3)) (bq : Int32) : vx_Met l yL_asked wsL_asked ({ frames := 8, cells := 1, slots := 6, locals := 123 } : Room) (qX G es A σ ad [.ref (ad 0 0), .int (nI 6), .int (x), .int (bq)]) qNR (qXX "java/lang/IllegalArgumentException") 1 6 A := by
  refine vx_ofW (cc := cL_asked) (maxL := 4) (ret := (some .int)) (by decide) rfl ?_
  intro p e s m args below meth c s₁ B hml htab hv
  obtain ⟨rfl, hC, hW, hZ, hT⟩ := hv
  have hx := B.exec
  have hb := B.bytes
  have hts := atoms_spec (ws := wsL_asked) B.pre
  have hown : s.vm.findClass RL = some m.cls := findClass_of_methodNamed B.named
  have hlocks := B.notSynchronized
  have hS : va_S A s.heap s.heap [] := va_S.rf
  have hl := lv_entry ([.ref (ad 0 0), .int (nI 6), .int (x), .int (bq)]) (n := 4) (Nat.le_of_ble_eq_true rfl)
  rw [lg_entry_eq]
  generalize (lg_sl ([.ref (ad 0 0), .int (nI 6), .int (x), .int (bq)]) ++ List.replicate (4 - (lg_sl ([.ref (ad 0 0), .int (nI 6), .int (x), .int (bq)])).length) Slot.unset).toArray = ls at hl ⊢
  have hl : lv_has ls 4 [(0, .ref (ad 0 0)), (1, .int (nI 6)), (2, .int (x)), (3, .int (bq))] := hl
  refine lv_iload_n hx hb dL_asked_0 rfl (lv_at hl 1 rfl) ?_
  refine lv_tableIn (off := 121) (tgt := 122) hx hb dL_asked_1 (by decide +kernel) (by decide +kernel) (by decide +kernel) (by decide) ?_
  refine lv_aload_n hx hb dL_asked_122 rfl (lv_at hl 0 rfl) ?_
  refine lv_iload_n hx hb dL_asked_123 rfl (lv_at hl 2 rfl) ?_
  exact q_xo (vx_runV (As := [.int (x)]) (rest := []) ⟨hx, hb, hml, hown, hts⟩ (x_kept1 l hst G es A σ ad hF x hbad) (cwV 1 hts gL_asked_X7_kept rfl rfl rfl (by decide +kernel) ⟨Nat.le_of_ble_eq_true rfl, Nat.le_of_ble_eq_true rfl⟩) ⟨qX.blind, qrecv hC (hW.to qLV0) rfl, qX.pre hC hW hZ hT⟩ rfl rfl hl.1 rfl (lv_room (Nat.le_of_ble_eq_true rfl)) dL_asked_124 ⟨Nat.le_of_ble_eq_true rfl, Nat.le_of_ble_eq_true rfl⟩) hS (fun _ h => h) htab hlocks
set_option maxHeartbeats 4000000 in
set_option maxRecDepth 100000 in
theorem bx_kept1 (l : Launch) (hst : l.stackTraces = false) (G : QG) (es : Nat) (A : Nat → Prop) (σ ad : QSt) (hF : qWF σ) (x : Int32) (hbad : ¬ (nI 0 ≤ x ∧ x ≤ nI 3)) (bq : Int32) : Met l yL_ask wsL_ask ({ frames := 9, cells := 1, slots := 6, locals := 146 } : Room) (qAk G es A σ ad [.ref (ad 0 0), .int (nI 6), .int (x), .int (bq)]) (qAP (some (.int (-2002)))) 1 6 A := by
  refine q_ofWH (cc := cL_ask) (maxL := 5) (ret := (some .int)) (hh := [(0, 7, 8, 118), (0, 7, 14, 21), (0, 7, 20, 23), (0, 7, 26, 52)]) (by decide) rfl ?_
  intro p e s m args below meth c s₁ B hml htab hv
  obtain ⟨rfl, hC, hW, hZ, hA, hT, hN⟩ := hv
  have hx := B.exec
  have hb := B.bytes
  have hr := B.returns
  have hts := atoms_spec (ws := wsL_ask) B.pre
  have hown : s.vm.findClass RL = some m.cls := findClass_of_methodNamed B.named
  have hlocks := B.notSynchronized
  have hS : va_S A s.heap s.heap [] := va_S.rf
  have hl := lv_entry ([.ref (ad 0 0), .int (nI 6), .int (x), .int (bq)]) (n := 5) (Nat.le_of_ble_eq_true rfl)
  rw [lg_entry_eq]
  generalize (lg_sl ([.ref (ad 0 0), .int (nI 6), .int (x), .int (bq)]) ++ List.replicate (5 - (lg_sl ([.ref (ad 0 0), .int (nI 6), .int (x), .int (bq)])).length) Slot.unset).toArray = ls at hl ⊢
  have hl : lv_has ls 5 [(0, .ref (ad 0 0)), (1, .int (nI 6)), (2, .int (x)), (3, .int (bq))] := hl
  refine lv_aload_n hx hb dL_ask_0 rfl (lv_at hl 0 rfl) ?_
  refine lv_iload_n hx hb dL_ask_1 rfl (lv_at hl 1 rfl) ?_
  refine lv_iload_n hx hb dL_ask_2 rfl (lv_at hl 2 rfl) ?_
  refine lv_iload_n hx hb dL_ask_3 rfl (lv_at hl 3 rfl) ?_
  refine q_xcatch (D := A) (a := [(0, 7, 8, 118)]) (h := (0, 7, 14, 21)) (b := [(0, 7, 20, 23), (0, 7, 26, 52)]) (vx_runS (As := [.ref (ad 0 0), .int (nI 6), .int (x), .int (bq)]) (rest := []) ⟨hx, hb, hml, hown, hts⟩ (ax_kept1 l hst G es A σ ad hF x hbad bq) (va_cwS 4 hts gL_ask_L_asked rfl rfl rfl (by decide +kernel) ⟨Nat.le_of_ble_eq_true rfl, Nat.le_of_ble_eq_true rfl⟩) ⟨qX.blind, qX.pre hC hW hZ hT⟩ rfl rfl hl.1 rfl (lv_room (Nat.le_of_ble_eq_true rfl)) dL_ask_4 ⟨Nat.le_of_ble_eq_true rfl, Nat.le_of_ble_eq_true rfl⟩) hS (fun _ h => h) hown htab rfl (List.forall_mem_cons.mpr ⟨⟨by decide, "java/lang/IndexOutOfBoundsException", (hts (.classLink RL 118 "java/lang/IndexOutOfBoundsException") (List.mem_of_getElem? (i := 1) (by decide +kernel))), hN ("java/lang/IllegalArgumentException", "java/lang/IndexOutOfBoundsException") (by decide)⟩, (List.forall_mem_nil _)⟩) (by decide) (by decide) (hts (.classLink RL 21 "java/lang/IllegalArgumentException") (List.mem_of_getElem? (i := 2) (by decide +kernel))) (q_qw hC (by decide +kernel)) (fun H1 locs q9 hz hk hS => ?_)
  refine lv_astore (lv' := [(4, .ref (q9)), (0, .ref (ad 0 0)), (1, .int (nI 6)), (2, .int (x)), (3, .int (bq))]) hx hb dL_ask_14 hl (by decide) rfl (fun ls hl => ?_)
  refine lv_sipush (v := -2002) hx hb dL_ask_16 (by decide) ?_
  exact W.iret hx hb hr (fun t ht _ => ⟨rfl, by rw [ht]; exact ⟨hz, hk⟩⟩) hS.2.2 dL_ask_19
