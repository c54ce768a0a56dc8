set_option maxHeartbeats 4000000 in
set_option maxRecDepth 100000 in
theorem kx_addLine1 (l : Launch) (hst : l.stackTraces = false) (G : QG) (es : Nat) (A : Nat → Prop) (σ ad : QSt) (hF : qWF σ) (x0 x1 x2 x3 x4 x5 : Int32) (hbad : ¬ ((nI 0 ≤ x0 ∧ x0 ≤ nI 3) ∧ (nI 0 ≤ x1 ∧ x1 ≤ nI 4) ∧ (nI 0 ≤ x2 ∧ x2 ≤ nI 99) ∧ (nI 0 ≤ x3 ∧ x3 ≤ nI 99) ∧ (nI 0 ≤ x4 ∧ x4 ≤ nI 99) ∧ (nI 1 ≤ x5 ∧ x5 ≤ nI 99))) (zo : Nat) (zf : Nat → Int64) (hzo : ¬ A zo) : Met l yL_addLine wsL_addLine ({ frames := 7, cells := 1, slots := 6, locals := 113 } : Room) (qLg G es A σ ad zo (.inl (G.2 2, 1, .inr (.inl zf))) [.ref (ad 0 0), .int (x0), .int (x1), .int (x2), .int (x3), .int (x4), .int (x5), .ref (zo)]) (qWV (some (.int (nI 1))) (fun H => qLW G es A σ ad H ∧ va_at G.1 vwCl (zo, .inl (G.2 2, 1, .inr (.inl zf))) H) (fun q => A q ∨ q = zo)) 1 6 (fun q => A q ∨ q = zo) := by
  refine q_ofWH (cc := cL_addLine) (maxL := 9) (ret := (some .int)) (hh := [(0, 18, 21, 13), (0, 18, 25, 15)]) (by decide) rfl ?_
  intro p e s m args below meth c s₁ B hml htab hv
  obtain ⟨rfl, hC, hW, hZ, hA, hzT, hzN, hat⟩ := hv
  have hx := B.exec
  have hb := B.bytes
  have hr := B.returns
  have hts := atoms_spec (ws := wsL_addLine) B.pre
  have hown : s.vm.findClass RL = some m.cls := findClass_of_methodNamed B.named
  have hlocks := B.notSynchronized
  have hS : va_S (fun q => A q ∨ q = zo) s.heap s.heap [] := va_S.rf
  have hl := lv_entry ([.ref (ad 0 0), .int (x0), .int (x1), .int (x2), .int (x3), .int (x4), .int (x5), .ref (zo)]) (n := 9) (Nat.le_of_ble_eq_true rfl)
  rw [lg_entry_eq]
  generalize (lg_sl ([.ref (ad 0 0), .int (x0), .int (x1), .int (x2), .int (x3), .int (x4), .int (x5), .ref (zo)]) ++ List.replicate (9 - (lg_sl ([.ref (ad 0 0), .int (x0), .int (x1), .int (x2), .int (x3), .int (x4), .int (x5), .ref (zo)])).length) Slot.unset).toArray = ls at hl ⊢
  have hl : lv_has ls 9 [(0, .ref (ad 0 0)), (1, .int (x0)), (2, .int (x1)), (3, .int (x2)), (4, .int (x3)), (5, .int (x4)), (6, .int (x5)), (7, .ref (zo))] := hl
  refine lv_aload hx hb dL_addLine_0 (lv_at hl 7 rfl) ?_
  refine lv_iconst (v := nI 0) hx hb dL_addLine_2 (by decide) ?_
  refine lv_aload_n hx hb dL_addLine_3 rfl (lv_at hl 0 rfl) ?_
  refine lv_iload_n hx hb dL_addLine_4 rfl (lv_at hl 1 rfl) ?_
  refine lv_iload_n hx hb dL_addLine_5 rfl (lv_at hl 2 rfl) ?_
  refine lv_iload_n hx hb dL_addLine_6 rfl (lv_at hl 3 rfl) ?_
  refine lv_iload hx hb dL_addLine_7 (lv_at hl 4 rfl) ?_
  refine lv_iload hx hb dL_addLine_9 (lv_at hl 5 rfl) ?_
  refine lv_iload hx hb dL_addLine_11 (lv_at hl 6 rfl) ?_
  refine q_xcatch (D := (fun q => A q ∨ q = zo)) (a := []) (h := (0, 18, 21, 13)) (b := [(0, 18, 25, 15)]) (vx_runV (As := [.int (x0), .int (x1), .int (x2), .int (x3), .int (x4), .int (x5)]) (rest := [.int (nI 0), .ref (zo)]) ⟨hx, hb, hml, hown, hts⟩ (x_addLine1 l hst G es A σ ad hF x0 x1 x2 x3 x4 x5 hbad) (cwV 6 hts gL_addLine_X7_addLine rfl rfl rfl (by decide +kernel) ⟨Nat.le_of_ble_eq_true rfl, Nat.le_of_ble_eq_true rfl⟩) ⟨qX.blind, qrecv hC (hW.to qLV0) rfl, qX.pre hC hW hZ hzT⟩ rfl rfl hl.1 rfl (lv_room (Nat.le_of_ble_eq_true rfl)) dL_addLine_13 ⟨Nat.le_of_ble_eq_true rfl, Nat.le_of_ble_eq_true rfl⟩) hS (fun _ h => Or.inl h) hown htab rfl (List.forall_mem_nil _) (by decide) (by decide) (hts (.classLink RL 13 "java/lang/IllegalArgumentException") (List.mem_of_getElem? (i := 1) (by decide +kernel))) (q_qw hC (by decide +kernel)) (fun H1 locs q9 hz hk hS => ?_)
  refine lv_astore (lv' := [(8, .ref (q9)), (0, .ref (ad 0 0)), (1, .int (x0)), (2, .int (x1)), (3, .int (x2)), (4, .int (x3)), (5, .int (x4)), (6, .int (x5)), (7, .ref (zo))]) hx hb dL_addLine_21 hl (by decide) rfl (fun ls hl => ?_)
  refine lv_iconst (v := nI 1) hx hb dL_addLine_23 (by decide) ?_
  exact W.iret hx hb hr (fun t ht _ => ⟨rfl, by rw [ht]; exact ⟨hW.same hk, hat.kept (hk zo hat.lt)⟩, hS.F ht⟩) hS.2.2 dL_addLine_24
set_option maxHeartbeats 4000000 in
set_option maxRecDepth 100000 in
theorem kx_addLine2 (l : Launch) (hst : l.stackTraces = false) (G : QG) (es : Nat) (A : Nat → Prop) (σ ad : QSt) (hF : qWF σ) (s0 r0 y1 y2 y3 b0 : Nat) (hs0 : s0 < 4) (hr0 : r0 < 5) (hy1 : y1 < 100) (hy2 : y2 < 100) (hy3 : y3 < 100) (hb0 : 1 ≤ b0 ∧ b0 ≤ 99) (hn0 : σ 0 0 = 200) (zo : Nat) (zf : Nat → Int64) (hzo : ¬ A zo) : Met l yL_addLine wsL_addLine ({ frames := 7, cells := 1, slots := 6, locals := 113 } : Room) (qLg G es A σ ad zo (.inl (G.2 2, 1, .inr (.inl zf))) [.ref (ad 0 0), .int (nI s0), .int (nI r0), .int (nI y1), .int (nI y2), .int (nI y3), .int (nI b0), .ref (zo)]) (qWV (some (.int (nI 2))) (fun H => qLW G es A σ ad H ∧ va_at G.1 vwCl (zo, .inl (G.2 2, 1, .inr (.inl zf))) H) (fun q => A q ∨ q = zo)) 1 6 (fun q => A q ∨ q = zo) := by
  refine q_ofWH (cc := cL_addLine) (maxL := 9) (ret := (some .int)) (hh := [(0, 18, 21, 13), (0, 18, 25, 15)]) (by decide) rfl ?_
  intro p e s m args below meth c s₁ B hml htab hv
  obtain ⟨rfl, hC, hW, hZ, hA, hzT, hzN, hat⟩ := hv
  have hx := B.exec
  have hb := B.bytes
  have hr := B.returns
  have hts := atoms_spec (ws := wsL_addLine) B.pre
  have hown : s.vm.findClass RL = some m.cls := findClass_of_methodNamed B.named
  have hlocks := B.notSynchronized
  have hS : va_S (fun q => A q ∨ q = zo) s.heap s.heap [] := va_S.rf
  have hl := lv_entry ([.ref (ad 0 0), .int (nI s0), .int (nI r0), .int (nI y1), .int (nI y2), .int (nI y3), .int (nI b0), .ref (zo)]) (n := 9) (Nat.le_of_ble_eq_true rfl)
  rw [lg_entry_eq]
  generalize (lg_sl ([.ref (ad 0 0), .int (nI s0), .int (nI r0), .int (nI y1), .int (nI y2), .int (nI y3), .int (nI b0), .ref (zo)]) ++ List.replicate (9 - (lg_sl ([.ref (ad 0 0), .int (nI s0), .int (nI r0), .int (nI y1), .int (nI y2), .int (nI y3), .int (nI b0), .ref (zo)])).length) Slot.unset).toArray = ls at hl ⊢
  have hl : lv_has ls 9 [(0, .ref (ad 0 0)), (1, .int (nI s0)), (2, .int (nI r0)), (3, .int (nI y1)), (4, .int (nI y2)), (5, .int (nI y3)), (6, .int (nI b0)), (7, .ref (zo))] := hl
  refine lv_aload hx hb dL_addLine_0 (lv_at hl 7 rfl) ?_
  refine lv_iconst (v := nI 0) hx hb dL_addLine_2 (by decide) ?_
  refine lv_aload_n hx hb dL_addLine_3 rfl (lv_at hl 0 rfl) ?_
  refine lv_iload_n hx hb dL_addLine_4 rfl (lv_at hl 1 rfl) ?_
  refine lv_iload_n hx hb dL_addLine_5 rfl (lv_at hl 2 rfl) ?_
  refine lv_iload_n hx hb dL_addLine_6 rfl (lv_at hl 3 rfl) ?_
  refine lv_iload hx hb dL_addLine_7 (lv_at hl 4 rfl) ?_
  refine lv_iload hx hb dL_addLine_9 (lv_at hl 5 rfl) ?_
  refine lv_iload hx hb dL_addLine_11 (lv_at hl 6 rfl) ?_
  refine q_xcatch (D := (fun q => A q ∨ q = zo)) (a := [(0, 18, 21, 13)]) (h := (0, 18, 25, 15)) (b := []) (vx_runV (As := [.int (nI s0), .int (nI r0), .int (nI y1), .int (nI y2), .int (nI y3), .int (nI b0)]) (rest := [.int (nI 0), .ref (zo)]) ⟨hx, hb, hml, hown, hts⟩ (x_addLine2 l hst G es A σ ad hF s0 r0 y1 y2 y3 b0 hs0 hr0 hy1 hy2 hy3 hb0 hn0) (cwV 6 hts gL_addLine_X7_addLine rfl rfl rfl (by decide +kernel) ⟨Nat.le_of_ble_eq_true rfl, Nat.le_of_ble_eq_true rfl⟩) ⟨qX.blind, qrecv hC (hW.to qLV0) rfl, qX.pre hC hW hZ hzT⟩ rfl rfl hl.1 rfl (lv_room (Nat.le_of_ble_eq_true rfl)) dL_addLine_13 ⟨Nat.le_of_ble_eq_true rfl, Nat.le_of_ble_eq_true rfl⟩) hS (fun _ h => Or.inl h) hown htab rfl (List.forall_mem_cons.mpr ⟨⟨by decide, "java/lang/IllegalArgumentException", (hts (.classLink RL 13 "java/lang/IllegalArgumentException") (List.mem_of_getElem? (i := 1) (by decide +kernel))), hzN ("java/lang/IllegalStateException", "java/lang/IllegalArgumentException") (by decide)⟩, (List.forall_mem_nil _)⟩) (by decide) (by decide) (hts (.classLink RL 15 "java/lang/IllegalStateException") (List.mem_of_getElem? (i := 2) (by decide +kernel))) (q_qw hC (by decide +kernel)) (fun H1 locs q9 hz hk hS => ?_)
  refine lv_astore (lv' := [(8, .ref (q9)), (0, .ref (ad 0 0)), (1, .int (nI s0)), (2, .int (nI r0)), (3, .int (nI y1)), (4, .int (nI y2)), (5, .int (nI y3)), (6, .int (nI b0)), (7, .ref (zo))]) hx hb dL_addLine_25 hl (by decide) rfl (fun ls hl => ?_)
  refine lv_iconst (v := nI 2) hx hb dL_addLine_27 (by decide) ?_
  exact W.iret hx hb hr (fun t ht _ => ⟨rfl, by rw [ht]; exact ⟨hW.same hk, hat.kept (hk zo hat.lt)⟩, hS.F ht⟩) hS.2.2 dL_addLine_28
set_option maxHeartbeats 4000000 in
set_option maxRecDepth 100000 in
theorem kx_stateOf1 (l : Launch) (hst : l.stackTraces = false) (G : QG) (es : Nat) (A : Nat → Prop) (σ ad : QSt) (hF : qWF σ) (x : Int32) (hx0 : ¬ rIn x (σ 0 0)) (zo : Nat) (zf : Nat → Int64) (hzo : ¬ A zo) : Met l yL_stateOf wsL_stateOf ({ frames := 8, cells := 1, slots := 6, locals := 124 } : Room) (qLg G es A σ ad zo (.inl (G.2 2, 1, .inr (.inl zf))) [.ref (ad 0 0), .int (x), .ref (zo)]) (qWV (some (.int (nI 1))) (fun H => qLW G es A σ ad H ∧ va_at G.1 vwCl (zo, .inl (G.2 2, 1, .inr (.inl zf))) H) (fun q => A q ∨ q = zo)) 1 6 (fun q => A q ∨ q = zo) := by
  refine q_ofWH (cc := cL_stateOf) (maxL := 4) (ret := (some .int)) (hh := [(0, 9, 12, 21)]) (by decide) rfl ?_
  intro p e s m args below meth c s₁ B hml htab hv
  obtain ⟨rfl, hC, hW, hZ, hA, hzT, hzN, hat⟩ := hv
  have hx := B.exec
  have hb := B.bytes
  have hr := B.returns
  have hts := atoms_spec (ws := wsL_stateOf) B.pre
  have hown : s.vm.findClass RL = some m.cls := findClass_of_methodNamed B.named
  have hlocks := B.notSynchronized
  have hS : va_S (fun q => A q ∨ q = zo) s.heap s.heap [] := va_S.rf
  have hl := lv_entry ([.ref (ad 0 0), .int (x), .ref (zo)]) (n := 4) (Nat.le_of_ble_eq_true rfl)
  rw [lg_entry_eq]
  generalize (lg_sl ([.ref (ad 0 0), .int (x), .ref (zo)]) ++ List.replicate (4 - (lg_sl ([.ref (ad 0 0), .int (x), .ref (zo)])).length) Slot.unset).toArray = ls at hl ⊢
  have hl : lv_has ls 4 [(0, .ref (ad 0 0)), (1, .int (x)), (2, .ref (zo))] := hl
  refine lv_aload_n hx hb dL_stateOf_0 rfl (lv_at hl 2 rfl) ?_
  refine lv_iconst (v := nI 0) hx hb dL_stateOf_1 (by decide) ?_
  refine lv_aload_n hx hb dL_stateOf_2 rfl (lv_at hl 0 rfl) ?_
  refine lv_iload_n hx hb dL_stateOf_3 rfl (lv_at hl 1 rfl) ?_
  refine q_xcatch (D := (fun q => A q ∨ q = zo)) (a := []) (h := (0, 9, 12, 21)) (b := []) (vx_runV (As := [.int (x)]) (rest := [.int (nI 0), .ref (zo)]) ⟨hx, hb, hml, hown, hts⟩ (x_stateOf1 l hst G es A σ ad hF x hx0) (cwV 1 hts gL_stateOf_X7_stateOf rfl rfl rfl (by decide +kernel) ⟨Nat.le_of_ble_eq_true rfl, Nat.le_of_ble_eq_true rfl⟩) ⟨qX.blind, qrecv hC (hW.to qLV0) rfl, qX.pre hC hW hZ hzT⟩ rfl rfl hl.1 rfl (lv_room (Nat.le_of_ble_eq_true rfl)) dL_stateOf_4 ⟨Nat.le_of_ble_eq_true rfl, Nat.le_of_ble_eq_true rfl⟩) hS (fun _ h => Or.inl h) hown htab rfl (List.forall_mem_nil _) (by decide) (by decide) (hts (.classLink RL 21 "java/util/NoSuchElementException") (List.mem_of_getElem? (i := 1) (by decide +kernel))) (q_qw hC (by decide +kernel)) (fun H1 locs q9 hz hk hS => ?_)
  refine lv_astore_n (lv' := [(3, .ref (q9)), (0, .ref (ad 0 0)), (1, .int (x)), (2, .ref (zo))]) hx hb dL_stateOf_12 rfl hl (by decide) rfl (fun ls hl => ?_)
  refine lv_iconst (v := nI 1) hx hb dL_stateOf_13 (by decide) ?_
  exact W.iret hx hb hr (fun t ht _ => ⟨rfl, by rw [ht]; exact ⟨hW.same hk, hat.kept (hk zo hat.lt)⟩, hS.F ht⟩) hS.2.2 dL_stateOf_14
set_option maxHeartbeats 4000000 in
set_option maxRecDepth 100000 in
theorem kx_patternOf1 (l : Launch) (hst : l.stackTraces = false) (G : QG) (es : Nat) (A : Nat → Prop) (σ ad : QSt) (hF : qWF σ) (x : Int32) (hx0 : ¬ rIn x (σ 0 0)) (zo : Nat) (zf : Nat → Int64) (hzo : ¬ A zo) : Met l yL_patternOf wsL_patternOf ({ frames := 8, cells := 1, slots := 6, locals := 124 } : Room) (qLg G es A σ ad zo (.inl (G.2 2, 1, .inr (.inl zf))) [.ref (ad 0 0), .int (x), .ref (zo)]) (qWV (some (.int (nI 1))) (fun H => qLW G es A σ ad H ∧ va_at G.1 vwCl (zo, .inl (G.2 2, 1, .inr (.inl zf))) H) (fun q => A q ∨ q = zo)) 1 6 (fun q => A q ∨ q = zo) := by
  refine q_ofWH (cc := cL_patternOf) (maxL := 4) (ret := (some .int)) (hh := [(0, 9, 12, 21)]) (by decide) rfl ?_
  intro p e s m args below meth c s₁ B hml htab hv
  obtain ⟨rfl, hC, hW, hZ, hA, hzT, hzN, hat⟩ := hv
  have hx := B.exec
  have hb := B.bytes
  have hr := B.returns
  have hts := atoms_spec (ws := wsL_patternOf) B.pre
  have hown : s.vm.findClass RL = some m.cls := findClass_of_methodNamed B.named
  have hlocks := B.notSynchronized
  have hS : va_S (fun q => A q ∨ q = zo) s.heap s.heap [] := va_S.rf
  have hl := lv_entry ([.ref (ad 0 0), .int (x), .ref (zo)]) (n := 4) (Nat.le_of_ble_eq_true rfl)
  rw [lg_entry_eq]
  generalize (lg_sl ([.ref (ad 0 0), .int (x), .ref (zo)]) ++ List.replicate (4 - (lg_sl ([.ref (ad 0 0), .int (x), .ref (zo)])).length) Slot.unset).toArray = ls at hl ⊢
  have hl : lv_has ls 4 [(0, .ref (ad 0 0)), (1, .int (x)), (2, .ref (zo))] := hl
  refine lv_aload_n hx hb dL_patternOf_0 rfl (lv_at hl 2 rfl) ?_
  refine lv_iconst (v := nI 0) hx hb dL_patternOf_1 (by decide) ?_
  refine lv_aload_n hx hb dL_patternOf_2 rfl (lv_at hl 0 rfl) ?_
  refine lv_iload_n hx hb dL_patternOf_3 rfl (lv_at hl 1 rfl) ?_
  refine q_xcatch (D := (fun q => A q ∨ q = zo)) (a := []) (h := (0, 9, 12, 21)) (b := []) (vx_runV (As := [.int (x)]) (rest := [.int (nI 0), .ref (zo)]) ⟨hx, hb, hml, hown, hts⟩ (x_patternOf1 l hst G es A σ ad hF x hx0) (cwV 1 hts gL_patternOf_X7_patternOf rfl rfl rfl (by decide +kernel) ⟨Nat.le_of_ble_eq_true rfl, Nat.le_of_ble_eq_true rfl⟩) ⟨qX.blind, qrecv hC (hW.to qLV0) rfl, qX.pre hC hW hZ hzT⟩ rfl rfl hl.1 rfl (lv_room (Nat.le_of_ble_eq_true rfl)) dL_patternOf_4 ⟨Nat.le_of_ble_eq_true rfl, Nat.le_of_ble_eq_true rfl⟩) hS (fun _ h => Or.inl h) hown htab rfl (List.forall_mem_nil _) (by decide) (by decide) (hts (.classLink RL 21 "java/util/NoSuchElementException") (List.mem_of_getElem? (i := 1) (by decide +kernel))) (q_qw hC (by decide +kernel)) (fun H1 locs q9 hz hk hS => ?_)
  refine lv_astore_n (lv' := [(3, .ref (q9)), (0, .ref (ad 0 0)), (1, .int (x)), (2, .ref (zo))]) hx hb dL_patternOf_12 rfl hl (by decide) rfl (fun ls hl => ?_)
  refine lv_iconst (v := nI 1) hx hb dL_patternOf_13 (by decide) ?_
  exact W.iret hx hb hr (fun t ht _ => ⟨rfl, by rw [ht]; exact ⟨hW.same hk, hat.kept (hk zo hat.lt)⟩, hS.F ht⟩) hS.2.2 dL_patternOf_14
set_option maxHeartbeats 4000000 in
set_option maxRecDepth 100000 in
theorem kx_patterns1 (l : Launch) (hst : l.stackTraces = false) (G : QG) (es : Nat) (A : Nat → Prop) (σ ad : QSt) (hF : qWF σ) (x : Int32) (hbad : ¬ (nI 0 ≤ x ∧ x ≤ nI 3)) (zo : Nat) (zf : Nat → Int64) (hzo : ¬ A zo) : Met l yL_patterns wsL_patterns ({ frames := 8, cells := 1, slots := 6, locals := 126 } : Room) (qLg G es A σ ad zo (.inl (G.2 2, 1, .inr (.inl zf))) [.ref (ad 0 0), .int (x), .ref (zo)]) (qWV (some (.int (nI 1))) (fun H => qLW G es A σ ad H ∧ va_at G.1 vwCl (zo, .inl (G.2 2, 1, .inr (.inl zf))) H) (fun q => A q ∨ q = zo)) 1 6 (fun q => A q ∨ q = zo) := by
  refine q_ofWH (cc := cL_patterns) (maxL := 4) (ret := (some .int)) (hh := [(0, 9, 12, 13)]) (by decide) rfl ?_
  intro p e s m args below meth c s₁ B hml htab hv
  obtain ⟨rfl, hC, hW, hZ, hA, hzT, hzN, hat⟩ := hv
  have hx := B.exec
  have hb := B.bytes
  have hr := B.returns
  have hts := atoms_spec (ws := wsL_patterns) B.pre
  have hown : s.vm.findClass RL = some m.cls := findClass_of_methodNamed B.named
  have hlocks := B.notSynchronized
  have hS : va_S (fun q => A q ∨ q = zo) s.heap s.heap [] := va_S.rf
  have hl := lv_entry ([.ref (ad 0 0), .int (x), .ref (zo)]) (n := 4) (Nat.le_of_ble_eq_true rfl)
  rw [lg_entry_eq]
  generalize (lg_sl ([.ref (ad 0 0), .int (x), .ref (zo)]) ++ List.replicate (4 - (lg_sl ([.ref (ad 0 0), .int (x), .ref (zo)])).length) Slot.unset).toArray = ls at hl ⊢
  have hl : lv_has ls 4 [(0, .ref (ad 0 0)), (1, .int (x)), (2, .ref (zo))] := hl
  refine lv_aload_n hx hb dL_patterns_0 rfl (lv_at hl 2 rfl) ?_
  refine lv_iconst (v := nI 0) hx hb dL_patterns_1 (by decide) ?_
  refine lv_aload_n hx hb dL_patterns_2 rfl (lv_at hl 0 rfl) ?_
  refine lv_iload_n hx hb dL_patterns_3 rfl (lv_at hl 1 rfl) ?_
  refine q_xcatch (D := (fun q => A q ∨ q = zo)) (a := []) (h := (0, 9, 12, 13)) (b := []) (vx_runV (As := [.int (x)]) (rest := [.int (nI 0), .ref (zo)]) ⟨hx, hb, hml, hown, hts⟩ (x_patterns1 l hst G es A σ ad hF x hbad) (cwV 1 hts gL_patterns_X7_patterns rfl rfl rfl (by decide +kernel) ⟨Nat.le_of_ble_eq_true rfl, Nat.le_of_ble_eq_true rfl⟩) ⟨qX.blind, qrecv hC (hW.to qLV0) rfl, qX.pre hC hW hZ hzT⟩ rfl rfl hl.1 rfl (lv_room (Nat.le_of_ble_eq_true rfl)) dL_patterns_4 ⟨Nat.le_of_ble_eq_true rfl, Nat.le_of_ble_eq_true rfl⟩) hS (fun _ h => Or.inl h) hown htab rfl (List.forall_mem_nil _) (by decide) (by decide) (hts (.classLink RL 13 "java/lang/IllegalArgumentException") (List.mem_of_getElem? (i := 1) (by decide +kernel))) (q_qw hC (by decide +kernel)) (fun H1 locs q9 hz hk hS => ?_)
  refine lv_astore_n (lv' := [(3, .ref (q9)), (0, .ref (ad 0 0)), (1, .int (x)), (2, .ref (zo))]) hx hb dL_patterns_12 rfl hl (by decide) rfl (fun ls hl => ?_)
  refine lv_iconst (v := nI 1) hx hb dL_patterns_13 (by decide) ?_
  exact W.iret hx hb hr (fun t ht _ => ⟨rfl, by rw [ht]; exact ⟨hW.same hk, hat.kept (hk zo hat.lt)⟩, hS.F ht⟩) hS.2.2 dL_patterns_14
set_option maxHeartbeats 4000000 in
set_option maxRecDepth 100000 in
theorem kx_wordAt1 (l : Launch) (hst : l.stackTraces = false) (G : QG) (es : Nat) (A : Nat → Prop) (σ ad : QSt) (hF : qWF σ) (x : Int32) (hx0 : ¬ rIn x (σ 0 1)) (y : Int32) (zo : Nat) (zf : Nat → Int64) (hzo : ¬ A zo) : Met l yL_wordAt wsL_wordAt ({ frames := 8, cells := 1, slots := 6, locals := 127 } : Room) (qLg G es A σ ad zo (.inl (G.2 2, 1, .inr (.inl zf))) [.ref (ad 0 0), .int (x), .int (y), .ref (zo)]) (qWV (some (.int (nI 1))) (fun H => qLW G es A σ ad H ∧ va_at G.1 vwCl (zo, .inl (G.2 2, 1, .inr (.inl zf))) H) (fun q => A q ∨ q = zo)) 1 6 (fun q => A q ∨ q = zo) := by
  refine q_ofWH (cc := cL_wordAt) (maxL := 5) (ret := (some .int)) (hh := [(0, 10, 13, 21), (0, 10, 17, 13)]) (by decide) rfl ?_
  intro p e s m args below meth c s₁ B hml htab hv
  obtain ⟨rfl, hC, hW, hZ, hA, hzT, hzN, hat⟩ := hv
  have hx := B.exec
  have hb := B.bytes
  have hr := B.returns
  have hts := atoms_spec (ws := wsL_wordAt) B.pre
  have hown : s.vm.findClass RL = some m.cls := findClass_of_methodNamed B.named
  have hlocks := B.notSynchronized
  have hS : va_S (fun q => A q ∨ q = zo) s.heap s.heap [] := va_S.rf
  have hl := lv_entry ([.ref (ad 0 0), .int (x), .int (y), .ref (zo)]) (n := 5) (Nat.le_of_ble_eq_true rfl)
  rw [lg_entry_eq]
  generalize (lg_sl ([.ref (ad 0 0), .int (x), .int (y), .ref (zo)]) ++ List.replicate (5 - (lg_sl ([.ref (ad 0 0), .int (x), .int (y), .ref (zo)])).length) Slot.unset).toArray = ls at hl ⊢
  have hl : lv_has ls 5 [(0, .ref (ad 0 0)), (1, .int (x)), (2, .int (y)), (3, .ref (zo))] := hl
  refine lv_aload_n hx hb dL_wordAt_0 rfl (lv_at hl 3 rfl) ?_
  refine lv_iconst (v := nI 0) hx hb dL_wordAt_1 (by decide) ?_
  refine lv_aload_n hx hb dL_wordAt_2 rfl (lv_at hl 0 rfl) ?_
  refine lv_iload_n hx hb dL_wordAt_3 rfl (lv_at hl 1 rfl) ?_
  refine lv_iload_n hx hb dL_wordAt_4 rfl (lv_at hl 2 rfl) ?_
  refine q_xcatch (D := (fun q => A q ∨ q = zo)) (a := []) (h := (0, 10, 13, 21)) (b := [(0, 10, 17, 13)]) (vx_runV (As := [.int (x), .int (y)]) (rest := [.int (nI 0), .ref (zo)]) ⟨hx, hb, hml, hown, hts⟩ (x_wordAt1 l hst G es A σ ad hF x hx0 y) (cwV 2 hts gL_wordAt_X7_wordAt rfl rfl rfl (by decide +kernel) ⟨Nat.le_of_ble_eq_true rfl, Nat.le_of_ble_eq_true rfl⟩) ⟨qX.blind, qrecv hC (hW.to qLV0) rfl, qX.pre hC hW hZ hzT⟩ rfl rfl hl.1 rfl (lv_room (Nat.le_of_ble_eq_true rfl)) dL_wordAt_5 ⟨Nat.le_of_ble_eq_true rfl, Nat.le_of_ble_eq_true rfl⟩) hS (fun _ h => Or.inl h) hown htab rfl (List.forall_mem_nil _) (by decide) (by decide) (hts (.classLink RL 21 "java/util/NoSuchElementException") (List.mem_of_getElem? (i := 1) (by decide +kernel))) (q_qw hC (by decide +kernel)) (fun H1 locs q9 hz hk hS => ?_)
  refine lv_astore (lv' := [(4, .ref (q9)), (0, .ref (ad 0 0)), (1, .int (x)), (2, .int (y)), (3, .ref (zo))]) hx hb dL_wordAt_13 hl (by decide) rfl (fun ls hl => ?_)
  refine lv_iconst (v := nI 1) hx hb dL_wordAt_15 (by decide) ?_
  exact W.iret hx hb hr (fun t ht _ => ⟨rfl, by rw [ht]; exact ⟨hW.same hk, hat.kept (hk zo hat.lt)⟩, hS.F ht⟩) hS.2.2 dL_wordAt_16
set_option maxHeartbeats 4000000 in
set_option maxRecDepth 100000 in
theorem kx_wordAt1m (l : Launch) (hst : l.stackTraces = false) (G : QG) (es : Nat) (A : Nat → Prop) (σ ad : QSt) (hF : qWF σ) (p0 : Nat) (hp : p0 < σ 0 1) (hm : σ 97 p0 ≠ 0) (y : Int32) (zo : Nat) (zf : Nat → Int64) (hzo : ¬ A zo) : Met l yL_wordAt wsL_wordAt ({ frames := 8, cells := 1, slots := 6, locals := 127 } : Room) (qLg G es A σ ad zo (.inl (G.2 2, 1, .inr (.inl zf))) [.ref (ad 0 0), .int (nI p0), .int (y), .ref (zo)]) (qWV (some (.int (nI 1))) (fun H => qLW G es A σ ad H ∧ va_at G.1 vwCl (zo, .inl (G.2 2, 1, .inr (.inl zf))) H) (fun q => A q ∨ q = zo)) 1 6 (fun q => A q ∨ q = zo) := by
  refine q_ofWH (cc := cL_wordAt) (maxL := 5) (ret := (some .int)) (hh := [(0, 10, 13, 21), (0, 10, 17, 13)]) (by decide) rfl ?_
  intro p e s m args below meth c s₁ B hml htab hv
  obtain ⟨rfl, hC, hW, hZ, hA, hzT, hzN, hat⟩ := hv
  have hx := B.exec
  have hb := B.bytes
  have hr := B.returns
  have hts := atoms_spec (ws := wsL_wordAt) B.pre
  have hown : s.vm.findClass RL = some m.cls := findClass_of_methodNamed B.named
  have hlocks := B.notSynchronized
  have hS : va_S (fun q => A q ∨ q = zo) s.heap s.heap [] := va_S.rf
  have hl := lv_entry ([.ref (ad 0 0), .int (nI p0), .int (y), .ref (zo)]) (n := 5) (Nat.le_of_ble_eq_true rfl)
  rw [lg_entry_eq]
  generalize (lg_sl ([.ref (ad 0 0), .int (nI p0), .int (y), .ref (zo)]) ++ List.replicate (5 - (lg_sl ([.ref (ad 0 0), .int (nI p0), .int (y), .ref (zo)])).length) Slot.unset).toArray = ls at hl ⊢
  have hl : lv_has ls 5 [(0, .ref (ad 0 0)), (1, .int (nI p0)), (2, .int (y)), (3, .ref (zo))] := hl
  refine lv_aload_n hx hb dL_wordAt_0 rfl (lv_at hl 3 rfl) ?_
  refine lv_iconst (v := nI 0) hx hb dL_wordAt_1 (by decide) ?_
  refine lv_aload_n hx hb dL_wordAt_2 rfl (lv_at hl 0 rfl) ?_
  refine lv_iload_n hx hb dL_wordAt_3 rfl (lv_at hl 1 rfl) ?_
  refine lv_iload_n hx hb dL_wordAt_4 rfl (lv_at hl 2 rfl) ?_
  refine q_xcatch (D := (fun q => A q ∨ q = zo)) (a := []) (h := (0, 10, 13, 21)) (b := [(0, 10, 17, 13)]) (vx_runV (As := [.int (nI p0), .int (y)]) (rest := [.int (nI 0), .ref (zo)]) ⟨hx, hb, hml, hown, hts⟩ (x_wordAt1m l hst G es A σ ad hF p0 hp hm y) (cwV 2 hts gL_wordAt_X7_wordAt rfl rfl rfl (by decide +kernel) ⟨Nat.le_of_ble_eq_true rfl, Nat.le_of_ble_eq_true rfl⟩) ⟨qX.blind, qrecv hC (hW.to qLV0) rfl, qX.pre hC hW hZ hzT⟩ rfl rfl hl.1 rfl (lv_room (Nat.le_of_ble_eq_true rfl)) dL_wordAt_5 ⟨Nat.le_of_ble_eq_true rfl, Nat.le_of_ble_eq_true rfl⟩) hS (fun _ h => Or.inl h) hown htab rfl (List.forall_mem_nil _) (by decide) (by decide) (hts (.classLink RL 21 "java/util/NoSuchElementException") (List.mem_of_getElem? (i := 1) (by decide +kernel))) (q_qw hC (by decide +kernel)) (fun H1 locs q9 hz hk hS => ?_)
  refine lv_astore (lv' := [(4, .ref (q9)), (0, .ref (ad 0 0)), (1, .int (nI p0)), (2, .int (y)), (3, .ref (zo))]) hx hb dL_wordAt_13 hl (by decide) rfl (fun ls hl => ?_)
  refine lv_iconst (v := nI 1) hx hb dL_wordAt_15 (by decide) ?_
  exact W.iret hx hb hr (fun t ht _ => ⟨rfl, by rw [ht]; exact ⟨hW.same hk, hat.kept (hk zo hat.lt)⟩, hS.F ht⟩) hS.2.2 dL_wordAt_16
set_option maxHeartbeats 4000000 in
set_option maxRecDepth 100000 in
theorem kx_wordAt2 (l : Launch) (hst : l.stackTraces = false) (G : QG) (es : Nat) (A : Nat → Prop) (σ ad : QSt) (hF : qWF σ) (p0 : Nat) (hp : p0 < σ 0 1) (hm : σ 97 p0 = 0) (y : Int32) (hbad : ¬ (nI 0 ≤ y ∧ y ≤ nI 2)) (zo : Nat) (zf : Nat → Int64) (hzo : ¬ A zo) : Met l yL_wordAt wsL_wordAt ({ frames := 8, cells := 1, slots := 6, locals := 125 } : Room) (qLg G es A σ ad zo (.inl (G.2 2, 1, .inr (.inl zf))) [.ref (ad 0 0), .int (nI p0), .int (y), .ref (zo)]) (qWV (some (.int (nI 2))) (fun H => qLW G es A σ ad H ∧ va_at G.1 vwCl (zo, .inl (G.2 2, 1, .inr (.inl zf))) H) (fun q => A q ∨ q = zo)) 1 6 (fun q => A q ∨ q = zo) := by
  refine q_ofWH (cc := cL_wordAt) (maxL := 5) (ret := (some .int)) (hh := [(0, 10, 13, 21), (0, 10, 17, 13)]) (by decide) rfl ?_
  intro p e s m args below meth c s₁ B hml htab hv
  obtain ⟨rfl, hC, hW, hZ, hA, hzT, hzN, hat⟩ := hv
  have hx := B.exec
  have hb := B.bytes
  have hr := B.returns
  have hts := atoms_spec (ws := wsL_wordAt) B.pre
  have hown : s.vm.findClass RL = some m.cls := findClass_of_methodNamed B.named
  have hlocks := B.notSynchronized
  have hS : va_S (fun q => A q ∨ q = zo) s.heap s.heap [] := va_S.rf
  have hl := lv_entry ([.ref (ad 0 0), .int (nI p0), .int (y), .ref (zo)]) (n := 5) (Nat.le_of_ble_eq_true rfl)
  rw [lg_entry_eq]
  generalize (lg_sl ([.ref (ad 0 0), .int (nI p0), .int (y), .ref (zo)]) ++ List.replicate (5 - (lg_sl ([.ref (ad 0 0), .int (nI p0), .int (y), .ref (zo)])).length) Slot.unset).toArray = ls at hl ⊢
  have hl : lv_has ls 5 [(0, .ref (ad 0 0)), (1, .int (nI p0)), (2, .int (y)), (3, .ref (zo))] := hl
  refine lv_aload_n hx hb dL_wordAt_0 rfl (lv_at hl 3 rfl) ?_
  refine lv_iconst (v := nI 0) hx hb dL_wordAt_1 (by decide) ?_
  refine lv_aload_n hx hb dL_wordAt_2 rfl (lv_at hl 0 rfl) ?_
  refine lv_iload_n hx hb dL_wordAt_3 rfl (lv_at hl 1 rfl) ?_
  refine lv_iload_n hx hb dL_wordAt_4 rfl (lv_at hl 2 rfl) ?_
  refine q_xcatch (D := (fun q => A q ∨ q = zo)) (a := [(0, 10, 13, 21)]) (h := (0, 10, 17, 13)) (b := []) (vx_runV (As := [.int (nI p0), .int (y)]) (rest := [.int (nI 0), .ref (zo)]) ⟨hx, hb, hml, hown, hts⟩ (x_wordAt2 l hst G es A σ ad hF p0 hp hm y hbad) (cwV 2 hts gL_wordAt_X7_wordAt rfl rfl rfl (by decide +kernel) ⟨Nat.le_of_ble_eq_true rfl, Nat.le_of_ble_eq_true rfl⟩) ⟨qX.blind, qrecv hC (hW.to qLV0) rfl, qX.pre hC hW hZ hzT⟩ rfl rfl hl.1 rfl (lv_room (Nat.le_of_ble_eq_true rfl)) dL_wordAt_5 ⟨Nat.le_of_ble_eq_true rfl, Nat.le_of_ble_eq_true rfl⟩) hS (fun _ h => Or.inl h) hown htab rfl (List.forall_mem_cons.mpr ⟨⟨by decide, "java/util/NoSuchElementException", (hts (.classLink RL 21 "java/util/NoSuchElementException") (List.mem_of_getElem? (i := 1) (by decide +kernel))), hzN ("java/lang/IllegalArgumentException", "java/util/NoSuchElementException") (by decide)⟩, (List.forall_mem_nil _)⟩) (by decide) (by decide) (hts (.classLink RL 13 "java/lang/IllegalArgumentException") (List.mem_of_getElem? (i := 2) (by decide +kernel))) (q_qw hC (by decide +kernel)) (fun H1 locs q9 hz hk hS => ?_)
  refine lv_astore (lv' := [(4, .ref (q9)), (0, .ref (ad 0 0)), (1, .int (nI p0)), (2, .int (y)), (3, .ref (zo))]) hx hb dL_wordAt_17 hl (by decide) rfl (fun ls hl => ?_)
  refine lv_iconst (v := nI 2) hx hb dL_wordAt_19 (by decide) ?_
  exact W.iret hx hb hr (fun t ht _ => ⟨rfl, by rw [ht]; exact ⟨hW.same hk, hat.kept (hk zo hat.lt)⟩, hS.F ht⟩) hS.2.2 dL_wordAt_20
set_option maxHeartbeats 4000000 in
set_option maxRecDepth 100000 in
theorem kx_linesOf1 (l : Launch) (hst : l.stackTraces = false) (G : QG) (es : Nat) (A : Nat → Prop) (σ ad : QSt) (hF : qWF σ) (x : Int32) (hx0 : ¬ rIn x (σ 0 1)) (zo : Nat) (zf : Nat → Int64) (hzo : ¬ A zo) : Met l yL_linesOf wsL_linesOf ({ frames := 8, cells := 1, slots := 6, locals := 128 } : Room) (qLg G es A σ ad zo (.inl (G.2 2, 1, .inr (.inl zf))) [.ref (ad 0 0), .int (x), .ref (zo)]) (qWV (some (.int (nI 1))) (fun H => qLW G es A σ ad H ∧ va_at G.1 vwCl (zo, .inl (G.2 2, 1, .inr (.inl zf))) H) (fun q => A q ∨ q = zo)) 1 6 (fun q => A q ∨ q = zo) := by
  refine q_ofWH (cc := cL_linesOf) (maxL := 4) (ret := (some .int)) (hh := [(0, 9, 12, 21)]) (by decide) rfl ?_
  intro p e s m args below meth c s₁ B hml htab hv
  obtain ⟨rfl, hC, hW, hZ, hA, hzT, hzN, hat⟩ := hv
  have hx := B.exec
  have hb := B.bytes
  have hr := B.returns
  have hts := atoms_spec (ws := wsL_linesOf) B.pre
  have hown : s.vm.findClass RL = some m.cls := findClass_of_methodNamed B.named
  have hlocks := B.notSynchronized
  have hS : va_S (fun q => A q ∨ q = zo) s.heap s.heap [] := va_S.rf
  have hl := lv_entry ([.ref (ad 0 0), .int (x), .ref (zo)]) (n := 4) (Nat.le_of_ble_eq_true rfl)
  rw [lg_entry_eq]
  generalize (lg_sl ([.ref (ad 0 0), .int (x), .ref (zo)]) ++ List.replicate (4 - (lg_sl ([.ref (ad 0 0), .int (x), .ref (zo)])).length) Slot.unset).toArray = ls at hl ⊢
  have hl : lv_has ls 4 [(0, .ref (ad 0 0)), (1, .int (x)), (2, .ref (zo))] := hl
  refine lv_aload_n hx hb dL_linesOf_0 rfl (lv_at hl 2 rfl) ?_
  refine lv_iconst (v := nI 0) hx hb dL_linesOf_1 (by decide) ?_
  refine lv_aload_n hx hb dL_linesOf_2 rfl (lv_at hl 0 rfl) ?_
  refine lv_iload_n hx hb dL_linesOf_3 rfl (lv_at hl 1 rfl) ?_
  refine q_xcatch (D := (fun q => A q ∨ q = zo)) (a := []) (h := (0, 9, 12, 21)) (b := []) (vx_runV (As := [.int (x)]) (rest := [.int (nI 0), .ref (zo)]) ⟨hx, hb, hml, hown, hts⟩ (x_linesOf1 l hst G es A σ ad hF x hx0) (cwV 1 hts gL_linesOf_X7_linesOf rfl rfl rfl (by decide +kernel) ⟨Nat.le_of_ble_eq_true rfl, Nat.le_of_ble_eq_true rfl⟩) ⟨qX.blind, qrecv hC (hW.to qLV0) rfl, qX.pre hC hW hZ hzT⟩ rfl rfl hl.1 rfl (lv_room (Nat.le_of_ble_eq_true rfl)) dL_linesOf_4 ⟨Nat.le_of_ble_eq_true rfl, Nat.le_of_ble_eq_true rfl⟩) hS (fun _ h => Or.inl h) hown htab rfl (List.forall_mem_nil _) (by decide) (by decide) (hts (.classLink RL 21 "java/util/NoSuchElementException") (List.mem_of_getElem? (i := 1) (by decide +kernel))) (q_qw hC (by decide +kernel)) (fun H1 locs q9 hz hk hS => ?_)
  refine lv_astore_n (lv' := [(3, .ref (q9)), (0, .ref (ad 0 0)), (1, .int (x)), (2, .ref (zo))]) hx hb dL_linesOf_12 rfl hl (by decide) rfl (fun ls hl => ?_)
  refine lv_iconst (v := nI 1) hx hb dL_linesOf_13 (by decide) ?_
  exact W.iret hx hb hr (fun t ht _ => ⟨rfl, by rw [ht]; exact ⟨hW.same hk, hat.kept (hk zo hat.lt)⟩, hS.F ht⟩) hS.2.2 dL_linesOf_14
set_option maxHeartbeats 4000000 in
set_option maxRecDepth 100000 in
theorem kx_linesOf1m (l : Launch) (hst : l.stackTraces = false) (G : QG) (es : Nat) (A : Nat → Prop) (σ ad : QSt) (hF : qWF σ) (p0 : Nat) (hp : p0 < σ 0 1) (hm : σ 97 p0 ≠ 0) (zo : Nat) (zf : Nat → Int64) (hzo : ¬ A zo) : Met l yL_linesOf wsL_linesOf ({ frames := 8, cells := 1, slots := 6, locals := 128 } : Room) (qLg G es A σ ad zo (.inl (G.2 2, 1, .inr (.inl zf))) [.ref (ad 0 0), .int (nI p0), .ref (zo)]) (qWV (some (.int (nI 1))) (fun H => qLW G es A σ ad H ∧ va_at G.1 vwCl (zo, .inl (G.2 2, 1, .inr (.inl zf))) H) (fun q => A q ∨ q = zo)) 1 6 (fun q => A q ∨ q = zo) := by
  refine q_ofWH (cc := cL_linesOf) (maxL := 4) (ret := (some .int)) (hh := [(0, 9, 12, 21)]) (by decide) rfl ?_
  intro p e s m args below meth c s₁ B hml htab hv
  obtain ⟨rfl, hC, hW, hZ, hA, hzT, hzN, hat⟩ := hv
  have hx := B.exec
  have hb := B.bytes
  have hr := B.returns
  have hts := atoms_spec (ws := wsL_linesOf) B.pre
  have hown : s.vm.findClass RL = some m.cls := findClass_of_methodNamed B.named
  have hlocks := B.notSynchronized
  have hS : va_S (fun q => A q ∨ q = zo) s.heap s.heap [] := va_S.rf
  have hl := lv_entry ([.ref (ad 0 0), .int (nI p0), .ref (zo)]) (n := 4) (Nat.le_of_ble_eq_true rfl)
  rw [lg_entry_eq]
  generalize (lg_sl ([.ref (ad 0 0), .int (nI p0), .ref (zo)]) ++ List.replicate (4 - (lg_sl ([.ref (ad 0 0), .int (nI p0), .ref (zo)])).length) Slot.unset).toArray = ls at hl ⊢
  have hl : lv_has ls 4 [(0, .ref (ad 0 0)), (1, .int (nI p0)), (2, .ref (zo))] := hl
  refine lv_aload_n hx hb dL_linesOf_0 rfl (lv_at hl 2 rfl) ?_
  refine lv_iconst (v := nI 0) hx hb dL_linesOf_1 (by decide) ?_
  refine lv_aload_n hx hb dL_linesOf_2 rfl (lv_at hl 0 rfl) ?_
  refine lv_iload_n hx hb dL_linesOf_3 rfl (lv_at hl 1 rfl) ?_
  refine q_xcatch (D := (fun q => A q ∨ q = zo)) (a := []) (h := (0, 9, 12, 21)) (b := []) (vx_runV (As := [.int (nI p0)]) (rest := [.int (nI 0), .ref (zo)]) ⟨hx, hb, hml, hown, hts⟩ (x_linesOf1m l hst G es A σ ad hF p0 hp hm) (cwV 1 hts gL_linesOf_X7_linesOf rfl rfl rfl (by decide +kernel) ⟨Nat.le_of_ble_eq_true rfl, Nat.le_of_ble_eq_true rfl⟩) ⟨qX.blind, qrecv hC (hW.to qLV0) rfl, qX.pre hC hW hZ hzT⟩ rfl rfl hl.1 rfl (lv_room (Nat.le_of_ble_eq_true rfl)) dL_linesOf_4 ⟨Nat.le_of_ble_eq_true rfl, Nat.le_of_ble_eq_true rfl⟩) hS (fun _ h => Or.inl h) hown htab rfl (List.forall_mem_nil _) (by decide) (by decide) (hts (.classLink RL 21 "java/util/NoSuchElementException") (List.mem_of_getElem? (i := 1) (by decide +kernel))) (q_qw hC (by decide +kernel)) (fun H1 locs q9 hz hk hS => ?_)
  refine lv_astore_n (lv' := [(3, .ref (q9)), (0, .ref (ad 0 0)), (1, .int (nI p0)), (2, .ref (zo))]) hx hb dL_linesOf_12 rfl hl (by decide) rfl (fun ls hl => ?_)
  refine lv_iconst (v := nI 1) hx hb dL_linesOf_13 (by decide) ?_
  exact W.iret hx hb hr (fun t ht _ => ⟨rfl, by rw [ht]; exact ⟨hW.same hk, hat.kept (hk zo hat.lt)⟩, hS.F ht⟩) hS.2.2 dL_linesOf_14
set_option maxHeartbeats 4000000 in
set_option maxRecDepth 100000 in
theorem kx_values1 (l : Launch) (hst : l.stackTraces = false) (G : QG) (es : Nat) (A : Nat → Prop) (σ ad : QSt) (hF : qWF σ) (x : Int32) (hx0 : ¬ rIn x (σ 0 1)) (y : Int32) (zo : Nat) (zf : Nat → Int64) (hzo : ¬ A zo) : Met l yL_values wsL_values ({ frames := 8, cells := 1, slots := 6, locals := 134 } : Room) (qLg G es A σ ad zo (.inl (G.2 2, 1, .inr (.inl zf))) [.ref (ad 0 0), .int (x), .int (y), .ref (zo)]) (qWV (some (.int (nI 1))) (fun H => qLW G es A σ ad H ∧ va_at G.1 vwCl (zo, .inl (G.2 2, 1, .inr (.inl zf))) H) (fun q => A q ∨ q = zo)) 1 6 (fun q => A q ∨ q = zo) := by
  refine q_ofWH (cc := cL_values) (maxL := 5) (ret := (some .int)) (hh := [(0, 10, 13, 21), (0, 10, 17, 13)]) (by decide) rfl ?_
  intro p e s m args below meth c s₁ B hml htab hv
  obtain ⟨rfl, hC, hW, hZ, hA, hzT, hzN, hat⟩ := hv
  have hx := B.exec
  have hb := B.bytes
  have hr := B.returns
  have hts := atoms_spec (ws := wsL_values) B.pre
  have hown : s.vm.findClass RL = some m.cls := findClass_of_methodNamed B.named
  have hlocks := B.notSynchronized
  have hS : va_S (fun q => A q ∨ q = zo) s.heap s.heap [] := va_S.rf
  have hl := lv_entry ([.ref (ad 0 0), .int (x), .int (y), .ref (zo)]) (n := 5) (Nat.le_of_ble_eq_true rfl)
  rw [lg_entry_eq]
  generalize (lg_sl ([.ref (ad 0 0), .int (x), .int (y), .ref (zo)]) ++ List.replicate (5 - (lg_sl ([.ref (ad 0 0), .int (x), .int (y), .ref (zo)])).length) Slot.unset).toArray = ls at hl ⊢
  have hl : lv_has ls 5 [(0, .ref (ad 0 0)), (1, .int (x)), (2, .int (y)), (3, .ref (zo))] := hl
  refine lv_aload_n hx hb dL_values_0 rfl (lv_at hl 3 rfl) ?_
  refine lv_iconst (v := nI 0) hx hb dL_values_1 (by decide) ?_
  refine lv_aload_n hx hb dL_values_2 rfl (lv_at hl 0 rfl) ?_
  refine lv_iload_n hx hb dL_values_3 rfl (lv_at hl 1 rfl) ?_
  refine lv_iload_n hx hb dL_values_4 rfl (lv_at hl 2 rfl) ?_
  refine q_xcatch (D := (fun q => A q ∨ q = zo)) (a := []) (h := (0, 10, 13, 21)) (b := [(0, 10, 17, 13)]) (vx_runV (As := [.int (x), .int (y)]) (rest := [.int (nI 0), .ref (zo)]) ⟨hx, hb, hml, hown, hts⟩ (x_values1 l hst G es A σ ad hF x hx0 y) (cwV 2 hts gL_values_X7_values rfl rfl rfl (by decide +kernel) ⟨Nat.le_of_ble_eq_true rfl, Nat.le_of_ble_eq_true rfl⟩) ⟨qX.blind, qrecv hC (hW.to qLV0) rfl, qX.pre hC hW hZ hzT⟩ rfl rfl hl.1 rfl (lv_room (Nat.le_of_ble_eq_true rfl)) dL_values_5 ⟨Nat.le_of_ble_eq_true rfl, Nat.le_of_ble_eq_true rfl⟩) hS (fun _ h => Or.inl h) hown htab rfl (List.forall_mem_nil _) (by decide) (by decide) (hts (.classLink RL 21 "java/util/NoSuchElementException") (List.mem_of_getElem? (i := 1) (by decide +kernel))) (q_qw hC (by decide +kernel)) (fun H1 locs q9 hz hk hS => ?_)
  refine lv_astore (lv' := [(4, .ref (q9)), (0, .ref (ad 0 0)), (1, .int (x)), (2, .int (y)), (3, .ref (zo))]) hx hb dL_values_13 hl (by decide) rfl (fun ls hl => ?_)
  refine lv_iconst (v := nI 1) hx hb dL_values_15 (by decide) ?_
  exact W.iret hx hb hr (fun t ht _ => ⟨rfl, by rw [ht]; exact ⟨hW.same hk, hat.kept (hk zo hat.lt)⟩, hS.F ht⟩) hS.2.2 dL_values_16
set_option maxHeartbeats 4000000 in
set_option maxRecDepth 100000 in
theorem kx_values1m (l : Launch) (hst : l.stackTraces = false) (G : QG) (es : Nat) (A : Nat → Prop) (σ ad : QSt) (hF : qWF σ) (p0 : Nat) (hp : p0 < σ 0 1) (hm : σ 97 p0 ≠ 0) (y : Int32) (zo : Nat) (zf : Nat → Int64) (hzo : ¬ A zo) : Met l yL_values wsL_values ({ frames := 8, cells := 1, slots := 6, locals := 134 } : Room) (qLg G es A σ ad zo (.inl (G.2 2, 1, .inr (.inl zf))) [.ref (ad 0 0), .int (nI p0), .int (y), .ref (zo)]) (qWV (some (.int (nI 1))) (fun H => qLW G es A σ ad H ∧ va_at G.1 vwCl (zo, .inl (G.2 2, 1, .inr (.inl zf))) H) (fun q => A q ∨ q = zo)) 1 6 (fun q => A q ∨ q = zo) := by
  refine q_ofWH (cc := cL_values) (maxL := 5) (ret := (some .int)) (hh := [(0, 10, 13, 21), (0, 10, 17, 13)]) (by decide) rfl ?_
  intro p e s m args below meth c s₁ B hml htab hv
  obtain ⟨rfl, hC, hW, hZ, hA, hzT, hzN, hat⟩ := hv
  have hx := B.exec
  have hb := B.bytes
  have hr := B.returns
  have hts := atoms_spec (ws := wsL_values) B.pre
  have hown : s.vm.findClass RL = some m.cls := findClass_of_methodNamed B.named
  have hlocks := B.notSynchronized
  have hS : va_S (fun q => A q ∨ q = zo) s.heap s.heap [] := va_S.rf
  have hl := lv_entry ([.ref (ad 0 0), .int (nI p0), .int (y), .ref (zo)]) (n := 5) (Nat.le_of_ble_eq_true rfl)
  rw [lg_entry_eq]
  generalize (lg_sl ([.ref (ad 0 0), .int (nI p0), .int (y), .ref (zo)]) ++ List.replicate (5 - (lg_sl ([.ref (ad 0 0), .int (nI p0), .int (y), .ref (zo)])).length) Slot.unset).toArray = ls at hl ⊢
  have hl : lv_has ls 5 [(0, .ref (ad 0 0)), (1, .int (nI p0)), (2, .int (y)), (3, .ref (zo))] := hl
  refine lv_aload_n hx hb dL_values_0 rfl (lv_at hl 3 rfl) ?_
  refine lv_iconst (v := nI 0) hx hb dL_values_1 (by decide) ?_
  refine lv_aload_n hx hb dL_values_2 rfl (lv_at hl 0 rfl) ?_
  refine lv_iload_n hx hb dL_values_3 rfl (lv_at hl 1 rfl) ?_
  refine lv_iload_n hx hb dL_values_4 rfl (lv_at hl 2 rfl) ?_
  refine q_xcatch (D := (fun q => A q ∨ q = zo)) (a := []) (h := (0, 10, 13, 21)) (b := [(0, 10, 17, 13)]) (vx_runV (As := [.int (nI p0), .int (y)]) (rest := [.int (nI 0), .ref (zo)]) ⟨hx, hb, hml, hown, hts⟩ (x_values1m l hst G es A σ ad hF p0 hp hm y) (cwV 2 hts gL_values_X7_values rfl rfl rfl (by decide +kernel) ⟨Nat.le_of_ble_eq_true rfl, Nat.le_of_ble_eq_true rfl⟩) ⟨qX.blind, qrecv hC (hW.to qLV0) rfl, qX.pre hC hW hZ hzT⟩ rfl rfl hl.1 rfl (lv_room (Nat.le_of_ble_eq_true rfl)) dL_values_5 ⟨Nat.le_of_ble_eq_true rfl, Nat.le_of_ble_eq_true rfl⟩) hS (fun _ h => Or.inl h) hown htab rfl (List.forall_mem_nil _) (by decide) (by decide) (hts (.classLink RL 21 "java/util/NoSuchElementException") (List.mem_of_getElem? (i := 1) (by decide +kernel))) (q_qw hC (by decide +kernel)) (fun H1 locs q9 hz hk hS => ?_)
  refine lv_astore (lv' := [(4, .ref (q9)), (0, .ref (ad 0 0)), (1, .int (nI p0)), (2, .int (y)), (3, .ref (zo))]) hx hb dL_values_13 hl (by decide) rfl (fun ls hl => ?_)
  refine lv_iconst (v := nI 1) hx hb dL_values_15 (by decide) ?_
  exact W.iret hx hb hr (fun t ht _ => ⟨rfl, by rw [ht]; exact ⟨hW.same hk, hat.kept (hk zo hat.lt)⟩, hS.F ht⟩) hS.2.2 dL_values_16
set_option maxHeartbeats 4000000 in
set_option maxRecDepth 100000 in
theorem kx_values2 (l : Launch) (hst : l.stackTraces = false) (G : QG) (es : Nat) (A : Nat → Prop) (σ ad : QSt) (hF : qWF σ) (p0 : Nat) (hp : p0 < σ 0 1) (hm : σ 97 p0 = 0) (y : Int32) (hbad : ¬ (nI 0 ≤ y ∧ y ≤ nI 2)) (zo : Nat) (zf : Nat → Int64) (hzo : ¬ A zo) : Met l yL_values wsL_values ({ frames := 8, cells := 1, slots := 6, locals := 132 } : Room) (qLg G es A σ ad zo (.inl (G.2 2, 1, .inr (.inl zf))) [.ref (ad 0 0), .int (nI p0), .int (y), .ref (zo)]) (qWV (some (.int (nI 2))) (fun H => qLW G es A σ ad H ∧ va_at G.1 vwCl (zo, .inl (G.2 2, 1, .inr (.inl zf))) H) (fun q => A q ∨ q = zo)) 1 6 (fun q => A q ∨ q = zo) := by
  refine q_ofWH (cc := cL_values) (maxL := 5) (ret := (some .int)) (hh := [(0, 10, 13, 21), (0, 10, 17, 13)]) (by decide) rfl ?_
  intro p e s m args below meth c s₁ B hml htab hv
  obtain ⟨rfl, hC, hW, hZ, hA, hzT, hzN, hat⟩ := hv
  have hx := B.exec
  have hb := B.bytes
  have hr := B.returns
  have hts := atoms_spec (ws := wsL_values) B.pre
  have hown : s.vm.findClass RL = some m.cls := findClass_of_methodNamed B.named
  have hlocks := B.notSynchronized
  have hS : va_S (fun q => A q ∨ q = zo) s.heap s.heap [] := va_S.rf
  have hl := lv_entry ([.ref (ad 0 0), .int (nI p0), .int (y), .ref (zo)]) (n := 5) (Nat.le_of_ble_eq_true rfl)
  rw [lg_entry_eq]
  generalize (lg_sl ([.ref (ad 0 0), .int (nI p0), .int (y), .ref (zo)]) ++ List.replicate (5 - (lg_sl ([.ref (ad 0 0), .int (nI p0), .int (y), .ref (zo)])).length) Slot.unset).toArray = ls at hl ⊢
  have hl : lv_has ls 5 [(0, .ref (ad 0 0)), (1, .int (nI p0)), (2, .int (y)), (3, .ref (zo))] := hl
  refine lv_aload_n hx hb dL_values_0 rfl (lv_at hl 3 rfl) ?_
  refine lv_iconst (v := nI 0) hx hb dL_values_1 (by decide) ?_
  refine lv_aload_n hx hb dL_values_2 rfl (lv_at hl 0 rfl) ?_
  refine lv_iload_n hx hb dL_values_3 rfl (lv_at hl 1 rfl) ?_
  refine lv_iload_n hx hb dL_values_4 rfl (lv_at hl 2 rfl) ?_
  refine q_xcatch (D := (fun q => A q ∨ q = zo)) (a := [(0, 10, 13, 21)]) (h := (0, 10, 17, 13)) (b := []) (vx_runV (As := [.int (nI p0), .int (y)]) (rest := [.int (nI 0), .ref (zo)]) ⟨hx, hb, hml, hown, hts⟩ (x_values2 l hst G es A σ ad hF p0 hp hm y hbad) (cwV 2 hts gL_values_X7_values rfl rfl rfl (by decide +kernel) ⟨Nat.le_of_ble_eq_true rfl, Nat.le_of_ble_eq_true rfl⟩) ⟨qX.blind, qrecv hC (hW.to qLV0) rfl, qX.pre hC hW hZ hzT⟩ rfl rfl hl.1 rfl (lv_room (Nat.le_of_ble_eq_true rfl)) dL_values_5 ⟨Nat.le_of_ble_eq_true rfl, Nat.le_of_ble_eq_true rfl⟩) hS (fun _ h => Or.inl h) hown htab rfl (List.forall_mem_cons.mpr ⟨⟨by decide, "java/util/NoSuchElementException", (hts (.classLink RL 21 "java/util/NoSuchElementException") (List.mem_of_getElem? (i := 1) (by decide +kernel))), hzN ("java/lang/IllegalArgumentException", "java/util/NoSuchElementException") (by decide)⟩, (List.forall_mem_nil _)⟩) (by decide) (by decide) (hts (.classLink RL 13 "java/lang/IllegalArgumentException") (List.mem_of_getElem? (i := 2) (by decide +kernel))) (q_qw hC (by decide +kernel)) (fun H1 locs q9 hz hk hS => ?_)
  refine lv_astore (lv' := [(4, .ref (q9)), (0, .ref (ad 0 0)), (1, .int (nI p0)), (2, .int (y)), (3, .ref (zo))]) hx hb dL_values_17 hl (by decide) rfl (fun ls hl => ?_)
  refine lv_iconst (v := nI 2) hx hb dL_values_19 (by decide) ?_
  exact W.iret hx hb hr (fun t ht _ => ⟨rfl, by rw [ht]; exact ⟨hW.same hk, hat.kept (hk zo hat.lt)⟩, hS.F ht⟩) hS.2.2 dL_values_20
set_option maxHeartbeats 4000000 in
set_option maxRecDepth 100000 in
theorem kx_setBudget1a (l : Launch) (hst : l.stackTraces = false) (G : QG) (es : Nat) (A : Nat → Prop) (σ ad : QSt) (hF : qWF σ) (x y : Int32) (hbad : ¬ (nI 0 ≤ x ∧ x ≤ nI 3)) (zo : Nat) (zf : Nat → Int64) (hzo : ¬ A zo) : Met l yL_setBudget wsL_setBudget ({ frames := 8, cells := 1, slots := 6, locals := 124 } : Room) (qLg G es A σ ad zo (.inl (G.2 2, 1, .inr (.inl zf))) [.ref (ad 0 0), .int (x), .int (y), .ref (zo)]) (qWV (some (.int (nI 1))) (fun H => qLW G es A σ ad H ∧ va_at G.1 vwCl (zo, .inl (G.2 2, 1, .inr (.inl zf))) H) (fun q => A q ∨ q = zo)) 1 6 (fun q => A q ∨ q = zo) := by
  refine q_ofWH (cc := cL_setBudget) (maxL := 5) (ret := (some .int)) (hh := [(0, 10, 13, 13)]) (by decide) rfl ?_
  intro p e s m args below meth c s₁ B hml htab hv
  obtain ⟨rfl, hC, hW, hZ, hA, hzT, hzN, hat⟩ := hv
  have hx := B.exec
  have hb := B.bytes
  have hr := B.returns
  have hts := atoms_spec (ws := wsL_setBudget) B.pre
  have hown : s.vm.findClass RL = some m.cls := findClass_of_methodNamed B.named
  have hlocks := B.notSynchronized
  have hS : va_S (fun q => A q ∨ q = zo) s.heap s.heap [] := va_S.rf
  have hl := lv_entry ([.ref (ad 0 0), .int (x), .int (y), .ref (zo)]) (n := 5) (Nat.le_of_ble_eq_true rfl)
  rw [lg_entry_eq]
  generalize (lg_sl ([.ref (ad 0 0), .int (x), .int (y), .ref (zo)]) ++ List.replicate (5 - (lg_sl ([.ref (ad 0 0), .int (x), .int (y), .ref (zo)])).length) Slot.unset).toArray = ls at hl ⊢
  have hl : lv_has ls 5 [(0, .ref (ad 0 0)), (1, .int (x)), (2, .int (y)), (3, .ref (zo))] := hl
  refine lv_aload_n hx hb dL_setBudget_0 rfl (lv_at hl 3 rfl) ?_
  refine lv_iconst (v := nI 0) hx hb dL_setBudget_1 (by decide) ?_
  refine lv_aload_n hx hb dL_setBudget_2 rfl (lv_at hl 0 rfl) ?_
  refine lv_iload_n hx hb dL_setBudget_3 rfl (lv_at hl 1 rfl) ?_
  refine lv_iload_n hx hb dL_setBudget_4 rfl (lv_at hl 2 rfl) ?_
  refine q_xcatch (D := (fun q => A q ∨ q = zo)) (a := []) (h := (0, 10, 13, 13)) (b := []) (vx_runV (As := [.int (x), .int (y)]) (rest := [.int (nI 0), .ref (zo)]) ⟨hx, hb, hml, hown, hts⟩ (x_setBudget1a l hst G es A σ ad hF x y hbad) (cwV 2 hts gL_setBudget_X7_setBudget rfl rfl rfl (by decide +kernel) ⟨Nat.le_of_ble_eq_true rfl, Nat.le_of_ble_eq_true rfl⟩) ⟨qX.blind, qrecv hC (hW.to qLV0) rfl, qX.pre hC hW hZ hzT⟩ rfl rfl hl.1 rfl (lv_room (Nat.le_of_ble_eq_true rfl)) dL_setBudget_5 ⟨Nat.le_of_ble_eq_true rfl, Nat.le_of_ble_eq_true rfl⟩) hS (fun _ h => Or.inl h) hown htab rfl (List.forall_mem_nil _) (by decide) (by decide) (hts (.classLink RL 13 "java/lang/IllegalArgumentException") (List.mem_of_getElem? (i := 1) (by decide +kernel))) (q_qw hC (by decide +kernel)) (fun H1 locs q9 hz hk hS => ?_)
  refine lv_astore (lv' := [(4, .ref (q9)), (0, .ref (ad 0 0)), (1, .int (x)), (2, .int (y)), (3, .ref (zo))]) hx hb dL_setBudget_13 hl (by decide) rfl (fun ls hl => ?_)
  refine lv_iconst (v := nI 1) hx hb dL_setBudget_15 (by decide) ?_
  exact W.iret hx hb hr (fun t ht _ => ⟨rfl, by rw [ht]; exact ⟨hW.same hk, hat.kept (hk zo hat.lt)⟩, hS.F ht⟩) hS.2.2 dL_setBudget_16
set_option maxHeartbeats 4000000 in
set_option maxRecDepth 100000 in
theorem kx_setBudget1b (l : Launch) (hst : l.stackTraces = false) (G : QG) (es : Nat) (A : Nat → Prop) (σ ad : QSt) (hF : qWF σ) (s0 : Nat) (hs0 : s0 < 4) (y : Int32) (hbad : ¬ (nI 0 ≤ y ∧ y ≤ nI 9999)) (zo : Nat) (zf : Nat → Int64) (hzo : ¬ A zo) : Met l yL_setBudget wsL_setBudget ({ frames := 7, cells := 1, slots := 6, locals := 104 } : Room) (qLg G es A σ ad zo (.inl (G.2 2, 1, .inr (.inl zf))) [.ref (ad 0 0), .int (nI s0), .int (y), .ref (zo)]) (qWV (some (.int (nI 1))) (fun H => qLW G es A σ ad H ∧ va_at G.1 vwCl (zo, .inl (G.2 2, 1, .inr (.inl zf))) H) (fun q => A q ∨ q = zo)) 1 6 (fun q => A q ∨ q = zo) := by
  refine q_ofWH (cc := cL_setBudget) (maxL := 5) (ret := (some .int)) (hh := [(0, 10, 13, 13)]) (by decide) rfl ?_
  intro p e s m args below meth c s₁ B hml htab hv
  obtain ⟨rfl, hC, hW, hZ, hA, hzT, hzN, hat⟩ := hv
  have hx := B.exec
  have hb := B.bytes
  have hr := B.returns
  have hts := atoms_spec (ws := wsL_setBudget) B.pre
  have hown : s.vm.findClass RL = some m.cls := findClass_of_methodNamed B.named
  have hlocks := B.notSynchronized
  have hS : va_S (fun q => A q ∨ q = zo) s.heap s.heap [] := va_S.rf
  have hl := lv_entry ([.ref (ad 0 0), .int (nI s0), .int (y), .ref (zo)]) (n := 5) (Nat.le_of_ble_eq_true rfl)
  rw [lg_entry_eq]
  generalize (lg_sl ([.ref (ad 0 0), .int (nI s0), .int (y), .ref (zo)]) ++ List.replicate (5 - (lg_sl ([.ref (ad 0 0), .int (nI s0), .int (y), .ref (zo)])).length) Slot.unset).toArray = ls at hl ⊢
  have hl : lv_has ls 5 [(0, .ref (ad 0 0)), (1, .int (nI s0)), (2, .int (y)), (3, .ref (zo))] := hl
  refine lv_aload_n hx hb dL_setBudget_0 rfl (lv_at hl 3 rfl) ?_
  refine lv_iconst (v := nI 0) hx hb dL_setBudget_1 (by decide) ?_
  refine lv_aload_n hx hb dL_setBudget_2 rfl (lv_at hl 0 rfl) ?_
  refine lv_iload_n hx hb dL_setBudget_3 rfl (lv_at hl 1 rfl) ?_
  refine lv_iload_n hx hb dL_setBudget_4 rfl (lv_at hl 2 rfl) ?_
  refine q_xcatch (D := (fun q => A q ∨ q = zo)) (a := []) (h := (0, 10, 13, 13)) (b := []) (vx_runV (As := [.int (nI s0), .int (y)]) (rest := [.int (nI 0), .ref (zo)]) ⟨hx, hb, hml, hown, hts⟩ (x_setBudget1b l hst G es A σ ad hF s0 hs0 y hbad) (cwV 2 hts gL_setBudget_X7_setBudget rfl rfl rfl (by decide +kernel) ⟨Nat.le_of_ble_eq_true rfl, Nat.le_of_ble_eq_true rfl⟩) ⟨qX.blind, qrecv hC (hW.to qLV0) rfl, qX.pre hC hW hZ hzT⟩ rfl rfl hl.1 rfl (lv_room (Nat.le_of_ble_eq_true rfl)) dL_setBudget_5 ⟨Nat.le_of_ble_eq_true rfl, Nat.le_of_ble_eq_true rfl⟩) hS (fun _ h => Or.inl h) hown htab rfl (List.forall_mem_nil _) (by decide) (by decide) (hts (.classLink RL 13 "java/lang/IllegalArgumentException") (List.mem_of_getElem? (i := 1) (by decide +kernel))) (q_qw hC (by decide +kernel)) (fun H1 locs q9 hz hk hS => ?_)
  refine lv_astore (lv' := [(4, .ref (q9)), (0, .ref (ad 0 0)), (1, .int (nI s0)), (2, .int (y)), (3, .ref (zo))]) hx hb dL_setBudget_13 hl (by decide) rfl (fun ls hl => ?_)
  refine lv_iconst (v := nI 1) hx hb dL_setBudget_15 (by decide) ?_
  exact W.iret hx hb hr (fun t ht _ => ⟨rfl, by rw [ht]; exact ⟨hW.same hk, hat.kept (hk zo hat.lt)⟩, hS.F ht⟩) hS.2.2 dL_setBudget_16
set_option maxHeartbeats 4000000 in
set_option maxRecDepth 100000 in
theorem kx_kept1 (l : Launch) (hst : l.stackTraces = false) (G : QG) (es : Nat) (A : Nat → Prop) (σ ad : QSt) (hF : qWF σ) (x : Int32) (hbad : ¬ (nI 0 ≤ x ∧ x ≤ nI 3)) (zo : Nat) (zf : Nat → Int64) (hzo : ¬ A zo) : Met l yL_kept wsL_kept ({ frames := 8, cells := 1, slots := 6, locals := 123 } : Room) (qLg G es A σ ad zo (.inl (G.2 2, 1, .inr (.inl zf))) [.ref (ad 0 0), .int (x), .ref (zo)]) (qWV (some (.int (nI 1))) (fun H => qLW G es A σ ad H ∧ va_at G.1 vwCl (zo, .inl (G.2 2, 1, .inr (.inl zf))) H) (fun q => A q ∨ q = zo)) 1 6 (fun q => A q ∨ q = zo) := by
  refine q_ofWH (cc := cL_kept) (maxL := 4) (ret := (some .int)) (hh := [(0, 9, 12, 13)]) (by decide) rfl ?_
  intro p e s m args below meth c s₁ B hml htab hv
  obtain ⟨rfl, hC, hW, hZ, hA, hzT, hzN, hat⟩ := hv
  have hx := B.exec
  have hb := B.bytes
  have hr := B.returns
  have hts := atoms_spec (ws := wsL_kept) B.pre
  have hown : s.vm.findClass RL = some m.cls := findClass_of_methodNamed B.named
  have hlocks := B.notSynchronized
  have hS : va_S (fun q => A q ∨ q = zo) s.heap s.heap [] := va_S.rf
  have hl := lv_entry ([.ref (ad 0 0), .int (x), .ref (zo)]) (n := 4) (Nat.le_of_ble_eq_true rfl)
  rw [lg_entry_eq]
  generalize (lg_sl ([.ref (ad 0 0), .int (x), .ref (zo)]) ++ List.replicate (4 - (lg_sl ([.ref (ad 0 0), .int (x), .ref (zo)])).length) Slot.unset).toArray = ls at hl ⊢
  have hl : lv_has ls 4 [(0, .ref (ad 0 0)), (1, .int (x)), (2, .ref (zo))] := hl
  refine lv_aload_n hx hb dL_kept_0 rfl (lv_at hl 2 rfl) ?_
  refine lv_iconst (v := nI 0) hx hb dL_kept_1 (by decide) ?_
  refine lv_aload_n hx hb dL_kept_2 rfl (lv_at hl 0 rfl) ?_
  refine lv_iload_n hx hb dL_kept_3 rfl (lv_at hl 1 rfl) ?_
  refine q_xcatch (D := (fun q => A q ∨ q = zo)) (a := []) (h := (0, 9, 12, 13)) (b := []) (vx_runV (As := [.int (x)]) (rest := [.int (nI 0), .ref (zo)]) ⟨hx, hb, hml, hown, hts⟩ (x_kept1 l hst G es A σ ad hF x hbad) (cwV 1 hts gL_kept_X7_kept rfl rfl rfl (by decide +kernel) ⟨Nat.le_of_ble_eq_true rfl, Nat.le_of_ble_eq_true rfl⟩) ⟨qX.blind, qrecv hC (hW.to qLV0) rfl, qX.pre hC hW hZ hzT⟩ rfl rfl hl.1 rfl (lv_room (Nat.le_of_ble_eq_true rfl)) dL_kept_4 ⟨Nat.le_of_ble_eq_true rfl, Nat.le_of_ble_eq_true rfl⟩) hS (fun _ h => Or.inl h) hown htab rfl (List.forall_mem_nil _) (by decide) (by decide) (hts (.classLink RL 13 "java/lang/IllegalArgumentException") (List.mem_of_getElem? (i := 1) (by decide +kernel))) (q_qw hC (by decide +kernel)) (fun H1 locs q9 hz hk hS => ?_)
  refine lv_astore_n (lv' := [(3, .ref (q9)), (0, .ref (ad 0 0)), (1, .int (x)), (2, .ref (zo))]) hx hb dL_kept_12 rfl hl (by decide) rfl (fun ls hl => ?_)
  refine lv_iconst (v := nI 1) hx hb dL_kept_13 (by decide) ?_
  exact W.iret hx hb hr (fun t ht _ => ⟨rfl, by rw [ht]; exact ⟨hW.same hk, hat.kept (hk zo hat.lt)⟩, hS.F ht⟩) hS.2.2 dL_kept_14
set_option maxHeartbeats 4000000 in
set_option maxRecDepth 100000 in
theorem kx_dropped1 (l : Launch) (hst : l.stackTraces = false) (G : QG) (es : Nat) (A : Nat → Prop) (σ ad : QSt) (hF : qWF σ) (x : Int32) (hbad : ¬ (nI 0 ≤ x ∧ x ≤ nI 3)) (zo : Nat) (zf : Nat → Int64) (hzo : ¬ A zo) : Met l yL_dropped wsL_dropped ({ frames := 8, cells := 1, slots := 6, locals := 126 } : Room) (qLg G es A σ ad zo (.inl (G.2 2, 1, .inr (.inl zf))) [.ref (ad 0 0), .int (x), .ref (zo)]) (qWV (some (.int (nI 1))) (fun H => qLW G es A σ ad H ∧ va_at G.1 vwCl (zo, .inl (G.2 2, 1, .inr (.inl zf))) H) (fun q => A q ∨ q = zo)) 1 6 (fun q => A q ∨ q = zo) := by
  refine q_ofWH (cc := cL_dropped) (maxL := 4) (ret := (some .int)) (hh := [(0, 9, 12, 13)]) (by decide) rfl ?_
  intro p e s m args below meth c s₁ B hml htab hv
  obtain ⟨rfl, hC, hW, hZ, hA, hzT, hzN, hat⟩ := hv
  have hx := B.exec
  have hb := B.bytes
  have hr := B.returns
  have hts := atoms_spec (ws := wsL_dropped) B.pre
  have hown : s.vm.findClass RL = some m.cls := findClass_of_methodNamed B.named
  have hlocks := B.notSynchronized
  have hS : va_S (fun q => A q ∨ q = zo) s.heap s.heap [] := va_S.rf
  have hl := lv_entry ([.ref (ad 0 0), .int (x), .ref (zo)]) (n := 4) (Nat.le_of_ble_eq_true rfl)
  rw [lg_entry_eq]
  generalize (lg_sl ([.ref (ad 0 0), .int (x), .ref (zo)]) ++ List.replicate (4 - (lg_sl ([.ref (ad 0 0), .int (x), .ref (zo)])).length) Slot.unset).toArray = ls at hl ⊢
  have hl : lv_has ls 4 [(0, .ref (ad 0 0)), (1, .int (x)), (2, .ref (zo))] := hl
  refine lv_aload_n hx hb dL_dropped_0 rfl (lv_at hl 2 rfl) ?_
  refine lv_iconst (v := nI 0) hx hb dL_dropped_1 (by decide) ?_
  refine lv_aload_n hx hb dL_dropped_2 rfl (lv_at hl 0 rfl) ?_
  refine lv_iload_n hx hb dL_dropped_3 rfl (lv_at hl 1 rfl) ?_
  refine q_xcatch (D := (fun q => A q ∨ q = zo)) (a := []) (h := (0, 9, 12, 13)) (b := []) (vx_runV (As := [.int (x)]) (rest := [.int (nI 0), .ref (zo)]) ⟨hx, hb, hml, hown, hts⟩ (x_dropped1 l hst G es A σ ad hF x hbad) (cwV 1 hts gL_dropped_X7_dropped rfl rfl rfl (by decide +kernel) ⟨Nat.le_of_ble_eq_true rfl, Nat.le_of_ble_eq_true rfl⟩) ⟨qX.blind, qrecv hC (hW.to qLV0) rfl, qX.pre hC hW hZ hzT⟩ rfl rfl hl.1 rfl (lv_room (Nat.le_of_ble_eq_true rfl)) dL_dropped_4 ⟨Nat.le_of_ble_eq_true rfl, Nat.le_of_ble_eq_true rfl⟩) hS (fun _ h => Or.inl h) hown htab rfl (List.forall_mem_nil _) (by decide) (by decide) (hts (.classLink RL 13 "java/lang/IllegalArgumentException") (List.mem_of_getElem? (i := 1) (by decide +kernel))) (q_qw hC (by decide +kernel)) (fun H1 locs q9 hz hk hS => ?_)
  refine lv_astore_n (lv' := [(3, .ref (q9)), (0, .ref (ad 0 0)), (1, .int (x)), (2, .ref (zo))]) hx hb dL_dropped_12 rfl hl (by decide) rfl (fun ls hl => ?_)
  refine lv_iconst (v := nI 1) hx hb dL_dropped_13 (by decide) ?_
  exact W.iret hx hb hr (fun t ht _ => ⟨rfl, by rw [ht]; exact ⟨hW.same hk, hat.kept (hk zo hat.lt)⟩, hS.F ht⟩) hS.2.2 dL_dropped_14
set_option maxHeartbeats 4000000 in
set_option maxRecDepth 100000 in
theorem kx_archive1 (l : Launch) (hst : l.stackTraces = false) (G : QG) (es : Nat) (A : Nat → Prop) (σ ad : QSt) (hF : qWF σ) (x : Int32) (hx0 : ¬ rIn x (σ 0 0)) (zo : Nat) (zf : Nat → Int64) (hzo : ¬ A zo) : Met l yL_archive wsL_archive ({ frames := 8, cells := 1, slots := 6, locals := 125 } : Room) (qLg G es A σ ad zo (.inl (G.2 2, 1, .inr (.inl zf))) [.ref (ad 0 0), .int (x), .ref (zo)]) (qWV (some (.int (nI 1))) (fun H => qLW G es A σ ad H ∧ va_at G.1 vwCl (zo, .inl (G.2 2, 1, .inr (.inl zf))) H) (fun q => A q ∨ q = zo)) 1 6 (fun q => A q ∨ q = zo) := by
  refine q_ofWH (cc := cL_archive) (maxL := 4) (ret := (some .int)) (hh := [(0, 9, 12, 21), (0, 9, 15, 15)]) (by decide) rfl ?_
  intro p e s m args below meth c s₁ B hml htab hv
  obtain ⟨rfl, hC, hW, hZ, hA, hzT, hzN, hat⟩ := hv
  have hx := B.exec
  have hb := B.bytes
  have hr := B.returns
  have hts := atoms_spec (ws := wsL_archive) B.pre
  have hown : s.vm.findClass RL = some m.cls := findClass_of_methodNamed B.named
  have hlocks := B.notSynchronized
  have hS : va_S (fun q => A q ∨ q = zo) s.heap s.heap [] := va_S.rf
  have hl := lv_entry ([.ref (ad 0 0), .int (x), .ref (zo)]) (n := 4) (Nat.le_of_ble_eq_true rfl)
  rw [lg_entry_eq]
  generalize (lg_sl ([.ref (ad 0 0), .int (x), .ref (zo)]) ++ List.replicate (4 - (lg_sl ([.ref (ad 0 0), .int (x), .ref (zo)])).length) Slot.unset).toArray = ls at hl ⊢
  have hl : lv_has ls 4 [(0, .ref (ad 0 0)), (1, .int (x)), (2, .ref (zo))] := hl
  refine lv_aload_n hx hb dL_archive_0 rfl (lv_at hl 2 rfl) ?_
  refine lv_iconst (v := nI 0) hx hb dL_archive_1 (by decide) ?_
  refine lv_aload_n hx hb dL_archive_2 rfl (lv_at hl 0 rfl) ?_
  refine lv_iload_n hx hb dL_archive_3 rfl (lv_at hl 1 rfl) ?_
  refine q_xcatch (D := (fun q => A q ∨ q = zo)) (a := []) (h := (0, 9, 12, 21)) (b := [(0, 9, 15, 15)]) (vx_runV (As := [.int (x)]) (rest := [.int (nI 0), .ref (zo)]) ⟨hx, hb, hml, hown, hts⟩ (x_archive1 l hst G es A σ ad hF x hx0) (cwV 1 hts gL_archive_X7_archive rfl rfl rfl (by decide +kernel) ⟨Nat.le_of_ble_eq_true rfl, Nat.le_of_ble_eq_true rfl⟩) ⟨qX.blind, qrecv hC (hW.to qLV0) rfl, qX.pre hC hW hZ hzT⟩ rfl rfl hl.1 rfl (lv_room (Nat.le_of_ble_eq_true rfl)) dL_archive_4 ⟨Nat.le_of_ble_eq_true rfl, Nat.le_of_ble_eq_true rfl⟩) hS (fun _ h => Or.inl h) hown htab rfl (List.forall_mem_nil _) (by decide) (by decide) (hts (.classLink RL 21 "java/util/NoSuchElementException") (List.mem_of_getElem? (i := 1) (by decide +kernel))) (q_qw hC (by decide +kernel)) (fun H1 locs q9 hz hk hS => ?_)
  refine lv_astore_n (lv' := [(3, .ref (q9)), (0, .ref (ad 0 0)), (1, .int (x)), (2, .ref (zo))]) hx hb dL_archive_12 rfl hl (by decide) rfl (fun ls hl => ?_)
  refine lv_iconst (v := nI 1) hx hb dL_archive_13 (by decide) ?_
  exact W.iret hx hb hr (fun t ht _ => ⟨rfl, by rw [ht]; exact ⟨hW.same hk, hat.kept (hk zo hat.lt)⟩, hS.F ht⟩) hS.2.2 dL_archive_14
set_option maxHeartbeats 4000000 in
set_option maxRecDepth 100000 in
theorem kx_archive2 (l : Launch) (hst : l.stackTraces = false) (G : QG) (es : Nat) (A : Nat → Prop) (σ ad : QSt) (hF : qWF σ) (i : Nat) (hi : i < σ 0 0) (hk9 : σ 69 i ≠ 107) (zo : Nat) (zf : Nat → Int64) (hzo : ¬ A zo) : Met l yL_archive wsL_archive ({ frames := 7, cells := 1, slots := 6, locals := 107 } : Room) (qLg G es A σ ad zo (.inl (G.2 2, 1, .inr (.inl zf))) [.ref (ad 0 0), .int (nI i), .ref (zo)]) (qWV (some (.int (nI 2))) (fun H => qLW G es A σ ad H ∧ va_at G.1 vwCl (zo, .inl (G.2 2, 1, .inr (.inl zf))) H) (fun q => A q ∨ q = zo)) 1 6 (fun q => A q ∨ q = zo) := by
  refine q_ofWH (cc := cL_archive) (maxL := 4) (ret := (some .int)) (hh := [(0, 9, 12, 21), (0, 9, 15, 15)]) (by decide) rfl ?_
  intro p e s m args below meth c s₁ B hml htab hv
  obtain ⟨rfl, hC, hW, hZ, hA, hzT, hzN, hat⟩ := hv
  have hx := B.exec
  have hb := B.bytes
  have hr := B.returns
  have hts := atoms_spec (ws := wsL_archive) B.pre
  have hown : s.vm.findClass RL = some m.cls := findClass_of_methodNamed B.named
  have hlocks := B.notSynchronized
  have hS : va_S (fun q => A q ∨ q = zo) s.heap s.heap [] := va_S.rf
  have hl := lv_entry ([.ref (ad 0 0), .int (nI i), .ref (zo)]) (n := 4) (Nat.le_of_ble_eq_true rfl)
  rw [lg_entry_eq]
  generalize (lg_sl ([.ref (ad 0 0), .int (nI i), .ref (zo)]) ++ List.replicate (4 - (lg_sl ([.ref (ad 0 0), .int (nI i), .ref (zo)])).length) Slot.unset).toArray = ls at hl ⊢
  have hl : lv_has ls 4 [(0, .ref (ad 0 0)), (1, .int (nI i)), (2, .ref (zo))] := hl
  refine lv_aload_n hx hb dL_archive_0 rfl (lv_at hl 2 rfl) ?_
  refine lv_iconst (v := nI 0) hx hb dL_archive_1 (by decide) ?_
  refine lv_aload_n hx hb dL_archive_2 rfl (lv_at hl 0 rfl) ?_
  refine lv_iload_n hx hb dL_archive_3 rfl (lv_at hl 1 rfl) ?_
  refine q_xcatch (D := (fun q => A q ∨ q = zo)) (a := [(0, 9, 12, 21)]) (h := (0, 9, 15, 15)) (b := []) (vx_runV (As := [.int (nI i)]) (rest := [.int (nI 0), .ref (zo)]) ⟨hx, hb, hml, hown, hts⟩ (x_archive2 l hst G es A σ ad hF i hi hk9) (cwV 1 hts gL_archive_X7_archive rfl rfl rfl (by decide +kernel) ⟨Nat.le_of_ble_eq_true rfl, Nat.le_of_ble_eq_true rfl⟩) ⟨qX.blind, qrecv hC (hW.to qLV0) rfl, qX.pre hC hW hZ hzT⟩ rfl rfl hl.1 rfl (lv_room (Nat.le_of_ble_eq_true rfl)) dL_archive_4 ⟨Nat.le_of_ble_eq_true rfl, Nat.le_of_ble_eq_true rfl⟩) hS (fun _ h => Or.inl h) hown htab rfl (List.forall_mem_cons.mpr ⟨⟨by decide, "java/util/NoSuchElementException", (hts (.classLink RL 21 "java/util/NoSuchElementException") (List.mem_of_getElem? (i := 1) (by decide +kernel))), hzN ("java/lang/IllegalStateException", "java/util/NoSuchElementException") (by decide)⟩, (List.forall_mem_nil _)⟩) (by decide) (by decide) (hts (.classLink RL 15 "java/lang/IllegalStateException") (List.mem_of_getElem? (i := 2) (by decide +kernel))) (q_qw hC (by decide +kernel)) (fun H1 locs q9 hz hk hS => ?_)
  refine lv_astore_n (lv' := [(3, .ref (q9)), (0, .ref (ad 0 0)), (1, .int (nI i)), (2, .ref (zo))]) hx hb dL_archive_15 rfl hl (by decide) rfl (fun ls hl => ?_)
  refine lv_iconst (v := nI 2) hx hb dL_archive_16 (by decide) ?_
  exact W.iret hx hb hr (fun t ht _ => ⟨rfl, by rw [ht]; exact ⟨hW.same hk, hat.kept (hk zo hat.lt)⟩, hS.F ht⟩) hS.2.2 dL_archive_17
set_option maxHeartbeats 4000000 in
set_option maxRecDepth 100000 in
theorem kx_request1 (l : Launch) (hst : l.stackTraces = false) (G : QG) (es : Nat) (A : Nat → Prop) (σ ad : QSt) (hF : qWF σ) (x y : Int32) (hbad : ¬ ((nI 0 ≤ x ∧ x ≤ nI 3) ∧ (nI 0 ≤ y ∧ y ≤ nI 4))) (zo : Nat) (zf : Nat → Int64) (hzo : ¬ A zo) : Met l yL_request wsL_request ({ frames := 7, cells := 1, slots := 6, locals := 106 } : Room) (qLg G es A σ ad zo (.inl (G.2 2, 1, .inr (.inl zf))) [.ref (ad 0 0), .int (x), .int (y), .ref (zo)]) (qWV (some (.int (nI 1))) (fun H => qLW G es A σ ad H ∧ va_at G.1 vwCl (zo, .inl (G.2 2, 1, .inr (.inl zf))) H) (fun q => A q ∨ q = zo)) 1 6 (fun q => A q ∨ q = zo) := by
  refine q_ofWH (cc := cL_request) (maxL := 5) (ret := (some .int)) (hh := [(0, 10, 13, 13), (0, 10, 17, 15)]) (by decide) rfl ?_
  intro p e s m args below meth c s₁ B hml htab hv
  obtain ⟨rfl, hC, hW, hZ, hA, hzT, hzN, hat⟩ := hv
  have hx := B.exec
  have hb := B.bytes
  have hr := B.returns
  have hts := atoms_spec (ws := wsL_request) B.pre
  have hown : s.vm.findClass RL = some m.cls := findClass_of_methodNamed B.named
  have hlocks := B.notSynchronized
  have hS : va_S (fun q => A q ∨ q = zo) s.heap s.heap [] := va_S.rf
  have hl := lv_entry ([.ref (ad 0 0), .int (x), .int (y), .ref (zo)]) (n := 5) (Nat.le_of_ble_eq_true rfl)
  rw [lg_entry_eq]
  generalize (lg_sl ([.ref (ad 0 0), .int (x), .int (y), .ref (zo)]) ++ List.replicate (5 - (lg_sl ([.ref (ad 0 0), .int (x), .int (y), .ref (zo)])).length) Slot.unset).toArray = ls at hl ⊢
  have hl : lv_has ls 5 [(0, .ref (ad 0 0)), (1, .int (x)), (2, .int (y)), (3, .ref (zo))] := hl
  refine lv_aload_n hx hb dL_request_0 rfl (lv_at hl 3 rfl) ?_
  refine lv_iconst (v := nI 0) hx hb dL_request_1 (by decide) ?_
  refine lv_aload_n hx hb dL_request_2 rfl (lv_at hl 0 rfl) ?_
  refine lv_iload_n hx hb dL_request_3 rfl (lv_at hl 1 rfl) ?_
  refine lv_iload_n hx hb dL_request_4 rfl (lv_at hl 2 rfl) ?_
  refine q_xcatch (D := (fun q => A q ∨ q = zo)) (a := []) (h := (0, 10, 13, 13)) (b := [(0, 10, 17, 15)]) (vx_runV (As := [.int (x), .int (y)]) (rest := [.int (nI 0), .ref (zo)]) ⟨hx, hb, hml, hown, hts⟩ (x_request1 l hst G es A σ ad hF x y hbad) (cwV 2 hts gL_request_X7_request rfl rfl rfl (by decide +kernel) ⟨Nat.le_of_ble_eq_true rfl, Nat.le_of_ble_eq_true rfl⟩) ⟨qX.blind, qrecv hC (hW.to qLV0) rfl, qX.pre hC hW hZ hzT⟩ rfl rfl hl.1 rfl (lv_room (Nat.le_of_ble_eq_true rfl)) dL_request_5 ⟨Nat.le_of_ble_eq_true rfl, Nat.le_of_ble_eq_true rfl⟩) hS (fun _ h => Or.inl h) hown htab rfl (List.forall_mem_nil _) (by decide) (by decide) (hts (.classLink RL 13 "java/lang/IllegalArgumentException") (List.mem_of_getElem? (i := 1) (by decide +kernel))) (q_qw hC (by decide +kernel)) (fun H1 locs q9 hz hk hS => ?_)
  refine lv_astore (lv' := [(4, .ref (q9)), (0, .ref (ad 0 0)), (1, .int (x)), (2, .int (y)), (3, .ref (zo))]) hx hb dL_request_13 hl (by decide) rfl (fun ls hl => ?_)
  refine lv_iconst (v := nI 1) hx hb dL_request_15 (by decide) ?_
  exact W.iret hx hb hr (fun t ht _ => ⟨rfl, by rw [ht]; exact ⟨hW.same hk, hat.kept (hk zo hat.lt)⟩, hS.F ht⟩) hS.2.2 dL_request_16
set_option maxHeartbeats 4000000 in
set_option maxRecDepth 100000 in
theorem kx_request2 (l : Launch) (hst : l.stackTraces = false) (G : QG) (es : Nat) (A : Nat → Prop) (σ ad : QSt) (hF : qWF σ) (s0 r0 : Nat) (hs0 : s0 < 4) (hr0 : r0 < 5) (hn4 : σ 0 4 = 20) (zo : Nat) (zf : Nat → Int64) (hzo : ¬ A zo) : Met l yL_request wsL_request ({ frames := 7, cells := 1, slots := 6, locals := 106 } : Room) (qLg G es A σ ad zo (.inl (G.2 2, 1, .inr (.inl zf))) [.ref (ad 0 0), .int (nI s0), .int (nI r0), .ref (zo)]) (qWV (some (.int (nI 2))) (fun H => qLW G es A σ ad H ∧ va_at G.1 vwCl (zo, .inl (G.2 2, 1, .inr (.inl zf))) H) (fun q => A q ∨ q = zo)) 1 6 (fun q => A q ∨ q = zo) := by
  refine q_ofWH (cc := cL_request) (maxL := 5) (ret := (some .int)) (hh := [(0, 10, 13, 13), (0, 10, 17, 15)]) (by decide) rfl ?_
  intro p e s m args below meth c s₁ B hml htab hv
  obtain ⟨rfl, hC, hW, hZ, hA, hzT, hzN, hat⟩ := hv
  have hx := B.exec
  have hb := B.bytes
  have hr := B.returns
  have hts := atoms_spec (ws := wsL_request) B.pre
  have hown : s.vm.findClass RL = some m.cls := findClass_of_methodNamed B.named
  have hlocks := B.notSynchronized
  have hS : va_S (fun q => A q ∨ q = zo) s.heap s.heap [] := va_S.rf
  have hl := lv_entry ([.ref (ad 0 0), .int (nI s0), .int (nI r0), .ref (zo)]) (n := 5) (Nat.le_of_ble_eq_true rfl)
  rw [lg_entry_eq]
  generalize (lg_sl ([.ref (ad 0 0), .int (nI s0), .int (nI r0), .ref (zo)]) ++ List.replicate (5 - (lg_sl ([.ref (ad 0 0), .int (nI s0), .int (nI r0), .ref (zo)])).length) Slot.unset).toArray = ls at hl ⊢
  have hl : lv_has ls 5 [(0, .ref (ad 0 0)), (1, .int (nI s0)), (2, .int (nI r0)), (3, .ref (zo))] := hl
  refine lv_aload_n hx hb dL_request_0 rfl (lv_at hl 3 rfl) ?_
  refine lv_iconst (v := nI 0) hx hb dL_request_1 (by decide) ?_
  refine lv_aload_n hx hb dL_request_2 rfl (lv_at hl 0 rfl) ?_
  refine lv_iload_n hx hb dL_request_3 rfl (lv_at hl 1 rfl) ?_
  refine lv_iload_n hx hb dL_request_4 rfl (lv_at hl 2 rfl) ?_
  refine q_xcatch (D := (fun q => A q ∨ q = zo)) (a := [(0, 10, 13, 13)]) (h := (0, 10, 17, 15)) (b := []) (vx_runV (As := [.int (nI s0), .int (nI r0)]) (rest := [.int (nI 0), .ref (zo)]) ⟨hx, hb, hml, hown, hts⟩ (x_request2 l hst G es A σ ad hF s0 r0 hs0 hr0 hn4) (cwV 2 hts gL_request_X7_request rfl rfl rfl (by decide +kernel) ⟨Nat.le_of_ble_eq_true rfl, Nat.le_of_ble_eq_true rfl⟩) ⟨qX.blind, qrecv hC (hW.to qLV0) rfl, qX.pre hC hW hZ hzT⟩ rfl rfl hl.1 rfl (lv_room (Nat.le_of_ble_eq_true rfl)) dL_request_5 ⟨Nat.le_of_ble_eq_true rfl, Nat.le_of_ble_eq_true rfl⟩) hS (fun _ h => Or.inl h) hown htab rfl (List.forall_mem_cons.mpr ⟨⟨by decide, "java/lang/IllegalArgumentException", (hts (.classLink RL 13 "java/lang/IllegalArgumentException") (List.mem_of_getElem? (i := 1) (by decide +kernel))), hzN ("java/lang/IllegalStateException", "java/lang/IllegalArgumentException") (by decide)⟩, (List.forall_mem_nil _)⟩) (by decide) (by decide) (hts (.classLink RL 15 "java/lang/IllegalStateException") (List.mem_of_getElem? (i := 2) (by decide +kernel))) (q_qw hC (by decide +kernel)) (fun H1 locs q9 hz hk hS => ?_)
  refine lv_astore (lv' := [(4, .ref (q9)), (0, .ref (ad 0 0)), (1, .int (nI s0)), (2, .int (nI r0)), (3, .ref (zo))]) hx hb dL_request_17 hl (by decide) rfl (fun ls hl => ?_)
  refine lv_iconst (v := nI 2) hx hb dL_request_19 (by decide) ?_
  exact W.iret hx hb hr (fun t ht _ => ⟨rfl, by rw [ht]; exact ⟨hW.same hk, hat.kept (hk zo hat.lt)⟩, hS.F ht⟩) hS.2.2 dL_request_20
set_option maxHeartbeats 4000000 in
set_option maxRecDepth 100000 in
theorem kx_answer1 (l : Launch) (hst : l.stackTraces = false) (G : QG) (es : Nat) (A : Nat → Prop) (σ ad : QSt) (hF : qWF σ) (x : Int32) (hx0 : ¬ rIn x (σ 0 4)) (zo : Nat) (zf : Nat → Int64) (hzo : ¬ A zo) : Met l yL_answer wsL_answer ({ frames := 7, cells := 1, slots := 6, locals := 104 } : Room) (qLg G es A σ ad zo (.inl (G.2 2, 1, .inr (.inl zf))) [.ref (ad 0 0), .int (x), .ref (zo)]) (qWV (some (.int (nI 1))) (fun H => qLW G es A σ ad H ∧ va_at G.1 vwCl (zo, .inl (G.2 2, 1, .inr (.inl zf))) H) (fun q => A q ∨ q = zo)) 1 6 (fun q => A q ∨ q = zo) := by
  refine q_ofWH (cc := cL_answer) (maxL := 4) (ret := (some .int)) (hh := [(0, 9, 12, 21), (0, 9, 15, 15)]) (by decide) rfl ?_
  intro p e s m args below meth c s₁ B hml htab hv
  obtain ⟨rfl, hC, hW, hZ, hA, hzT, hzN, hat⟩ := hv
  have hx := B.exec
  have hb := B.bytes
  have hr := B.returns
  have hts := atoms_spec (ws := wsL_answer) B.pre
  have hown : s.vm.findClass RL = some m.cls := findClass_of_methodNamed B.named
  have hlocks := B.notSynchronized
  have hS : va_S (fun q => A q ∨ q = zo) s.heap s.heap [] := va_S.rf
  have hl := lv_entry ([.ref (ad 0 0), .int (x), .ref (zo)]) (n := 4) (Nat.le_of_ble_eq_true rfl)
  rw [lg_entry_eq]
  generalize (lg_sl ([.ref (ad 0 0), .int (x), .ref (zo)]) ++ List.replicate (4 - (lg_sl ([.ref (ad 0 0), .int (x), .ref (zo)])).length) Slot.unset).toArray = ls at hl ⊢
  have hl : lv_has ls 4 [(0, .ref (ad 0 0)), (1, .int (x)), (2, .ref (zo))] := hl
  refine lv_aload_n hx hb dL_answer_0 rfl (lv_at hl 2 rfl) ?_
  refine lv_iconst (v := nI 0) hx hb dL_answer_1 (by decide) ?_
  refine lv_aload_n hx hb dL_answer_2 rfl (lv_at hl 0 rfl) ?_
  refine lv_iload_n hx hb dL_answer_3 rfl (lv_at hl 1 rfl) ?_
  refine q_xcatch (D := (fun q => A q ∨ q = zo)) (a := []) (h := (0, 9, 12, 21)) (b := [(0, 9, 15, 15)]) (vx_runV (As := [.int (x)]) (rest := [.int (nI 0), .ref (zo)]) ⟨hx, hb, hml, hown, hts⟩ (x_answer1 l hst G es A σ ad hF x hx0) (cwV 1 hts gL_answer_X7_answer rfl rfl rfl (by decide +kernel) ⟨Nat.le_of_ble_eq_true rfl, Nat.le_of_ble_eq_true rfl⟩) ⟨qX.blind, qrecv hC (hW.to qLV0) rfl, qX.pre hC hW hZ hzT⟩ rfl rfl hl.1 rfl (lv_room (Nat.le_of_ble_eq_true rfl)) dL_answer_4 ⟨Nat.le_of_ble_eq_true rfl, Nat.le_of_ble_eq_true rfl⟩) hS (fun _ h => Or.inl h) hown htab rfl (List.forall_mem_nil _) (by decide) (by decide) (hts (.classLink RL 21 "java/util/NoSuchElementException") (List.mem_of_getElem? (i := 1) (by decide +kernel))) (q_qw hC (by decide +kernel)) (fun H1 locs q9 hz hk hS => ?_)
  refine lv_astore_n (lv' := [(3, .ref (q9)), (0, .ref (ad 0 0)), (1, .int (x)), (2, .ref (zo))]) hx hb dL_answer_12 rfl hl (by decide) rfl (fun ls hl => ?_)
  refine lv_iconst (v := nI 1) hx hb dL_answer_13 (by decide) ?_
  exact W.iret hx hb hr (fun t ht _ => ⟨rfl, by rw [ht]; exact ⟨hW.same hk, hat.kept (hk zo hat.lt)⟩, hS.F ht⟩) hS.2.2 dL_answer_14
set_option maxHeartbeats 4000000 in
set_option maxRecDepth 100000 in
theorem kx_answer2 (l : Launch) (hst : l.stackTraces = false) (G : QG) (es : Nat) (A : Nat → Prop) (σ ad : QSt) (hF : qWF σ) (i : Nat) (hi : i < σ 0 4) (h1 : σ 193 i = 0) (zo : Nat) (zf : Nat → Int64) (hzo : ¬ A zo) : Met l yL_answer wsL_answer ({ frames := 7, cells := 1, slots := 6, locals := 104 } : Room) (qLg G es A σ ad zo (.inl (G.2 2, 1, .inr (.inl zf))) [.ref (ad 0 0), .int (nI i), .ref (zo)]) (qWV (some (.int (nI 2))) (fun H => qLW G es A σ ad H ∧ va_at G.1 vwCl (zo, .inl (G.2 2, 1, .inr (.inl zf))) H) (fun q => A q ∨ q = zo)) 1 6 (fun q => A q ∨ q = zo) := by
  refine q_ofWH (cc := cL_answer) (maxL := 4) (ret := (some .int)) (hh := [(0, 9, 12, 21), (0, 9, 15, 15)]) (by decide) rfl ?_
  intro p e s m args below meth c s₁ B hml htab hv
  obtain ⟨rfl, hC, hW, hZ, hA, hzT, hzN, hat⟩ := hv
  have hx := B.exec
  have hb := B.bytes
  have hr := B.returns
  have hts := atoms_spec (ws := wsL_answer) B.pre
  have hown : s.vm.findClass RL = some m.cls := findClass_of_methodNamed B.named
  have hlocks := B.notSynchronized
  have hS : va_S (fun q => A q ∨ q = zo) s.heap s.heap [] := va_S.rf
  have hl := lv_entry ([.ref (ad 0 0), .int (nI i), .ref (zo)]) (n := 4) (Nat.le_of_ble_eq_true rfl)
  rw [lg_entry_eq]
  generalize (lg_sl ([.ref (ad 0 0), .int (nI i), .ref (zo)]) ++ List.replicate (4 - (lg_sl ([.ref (ad 0 0), .int (nI i), .ref (zo)])).length) Slot.unset).toArray = ls at hl ⊢
  have hl : lv_has ls 4 [(0, .ref (ad 0 0)), (1, .int (nI i)), (2, .ref (zo))] := hl
  refine lv_aload_n hx hb dL_answer_0 rfl (lv_at hl 2 rfl) ?_
  refine lv_iconst (v := nI 0) hx hb dL_answer_1 (by decide) ?_
  refine lv_aload_n hx hb dL_answer_2 rfl (lv_at hl 0 rfl) ?_
  refine lv_iload_n hx hb dL_answer_3 rfl (lv_at hl 1 rfl) ?_
  refine q_xcatch (D := (fun q => A q ∨ q = zo)) (a := [(0, 9, 12, 21)]) (h := (0, 9, 15, 15)) (b := []) (vx_runV (As := [.int (nI i)]) (rest := [.int (nI 0), .ref (zo)]) ⟨hx, hb, hml, hown, hts⟩ (x_answer2 l hst G es A σ ad hF i hi h1) (cwV 1 hts gL_answer_X7_answer rfl rfl rfl (by decide +kernel) ⟨Nat.le_of_ble_eq_true rfl, Nat.le_of_ble_eq_true rfl⟩) ⟨qX.blind, qrecv hC (hW.to qLV0) rfl, qX.pre hC hW hZ hzT⟩ rfl rfl hl.1 rfl (lv_room (Nat.le_of_ble_eq_true rfl)) dL_answer_4 ⟨Nat.le_of_ble_eq_true rfl, Nat.le_of_ble_eq_true rfl⟩) hS (fun _ h => Or.inl h) hown htab rfl (List.forall_mem_cons.mpr ⟨⟨by decide, "java/util/NoSuchElementException", (hts (.classLink RL 21 "java/util/NoSuchElementException") (List.mem_of_getElem? (i := 1) (by decide +kernel))), hzN ("java/lang/IllegalStateException", "java/util/NoSuchElementException") (by decide)⟩, (List.forall_mem_nil _)⟩) (by decide) (by decide) (hts (.classLink RL 15 "java/lang/IllegalStateException") (List.mem_of_getElem? (i := 2) (by decide +kernel))) (q_qw hC (by decide +kernel)) (fun H1 locs q9 hz hk hS => ?_)
  refine lv_astore_n (lv' := [(3, .ref (q9)), (0, .ref (ad 0 0)), (1, .int (nI i)), (2, .ref (zo))]) hx hb dL_answer_15 rfl hl (by decide) rfl (fun ls hl => ?_)
  refine lv_iconst (v := nI 2) hx hb dL_answer_16 (by decide) ?_
  exact W.iret hx hb hr (fun t ht _ => ⟨rfl, by rw [ht]; exact ⟨hW.same hk, hat.kept (hk zo hat.lt)⟩, hS.F ht⟩) hS.2.2 dL_answer_17
set_option maxHeartbeats 4000000 in
set_option maxRecDepth 100000 in
theorem kx_addAlert1 (l : Launch) (hst : l.stackTraces = false) (G : QG) (es : Nat) (A : Nat → Prop) (σ ad : QSt) (hF : qWF σ) (x0 x1 x2 x3 x4 x5 x6 : Int32) (hbad : ¬ ((nI 0 ≤ x0 ∧ x0 ≤ nI 3) ∧ (nI 0 ≤ x1 ∧ x1 ≤ nI 4) ∧ (-1 ≤ x2 ∧ x2 ≤ nI 2) ∧ (nI 0 ≤ x3 ∧ x3 ≤ nI 99) ∧ (nI 1 ≤ x4 ∧ x4 ≤ nI 9) ∧ (nI 1 ≤ x5 ∧ x5 ≤ nI 50) ∧ (nI 0 ≤ x6 ∧ x6 ≤ nI 20))) (zo : Nat) (zf : Nat → Int64) (hzo : ¬ A zo) : Met l yL_addAlert wsL_addAlert ({ frames := 7, cells := 1, slots := 6, locals := 112 } : Room) (qLg G es A σ ad zo (.inl (G.2 2, 1, .inr (.inl zf))) [.ref (ad 0 0), .int (x0), .int (x1), .int (x2), .int (x3), .int (x4), .int (x5), .int (x6), .ref (zo)]) (qWV (some (.int (nI 1))) (fun H => qLW G es A σ ad H ∧ va_at G.1 vwCl (zo, .inl (G.2 2, 1, .inr (.inl zf))) H) (fun q => A q ∨ q = zo)) 1 6 (fun q => A q ∨ q = zo) := by
  refine q_ofWH (cc := cL_addAlert) (maxL := 10) (ret := (some .int)) (hh := [(0, 20, 23, 13), (0, 20, 27, 15)]) (by decide) rfl ?_
  intro p e s m args below meth c s₁ B hml htab hv
  obtain ⟨rfl, hC, hW, hZ, hA, hzT, hzN, hat⟩ := hv
  have hx := B.exec
  have hb := B.bytes
  have hr := B.returns
  have hts := atoms_spec (ws := wsL_addAlert) B.pre
  have hown : s.vm.findClass RL = some m.cls := findClass_of_methodNamed B.named
  have hlocks := B.notSynchronized
  have hS : va_S (fun q => A q ∨ q = zo) s.heap s.heap [] := va_S.rf
  have hl := lv_entry ([.ref (ad 0 0), .int (x0), .int (x1), .int (x2), .int (x3), .int (x4), .int (x5), .int (x6), .ref (zo)]) (n := 10) (Nat.le_of_ble_eq_true rfl)
  rw [lg_entry_eq]
  generalize (lg_sl ([.ref (ad 0 0), .int (x0), .int (x1), .int (x2), .int (x3), .int (x4), .int (x5), .int (x6), .ref (zo)]) ++ List.replicate (10 - (lg_sl ([.ref (ad 0 0), .int (x0), .int (x1), .int (x2), .int (x3), .int (x4), .int (x5), .int (x6), .ref (zo)])).length) Slot.unset).toArray = ls at hl ⊢
  have hl : lv_has ls 10 [(0, .ref (ad 0 0)), (1, .int (x0)), (2, .int (x1)), (3, .int (x2)), (4, .int (x3)), (5, .int (x4)), (6, .int (x5)), (7, .int (x6)), (8, .ref (zo))] := hl
  refine lv_aload hx hb dL_addAlert_0 (lv_at hl 8 rfl) ?_
  refine lv_iconst (v := nI 0) hx hb dL_addAlert_2 (by decide) ?_
  refine lv_aload_n hx hb dL_addAlert_3 rfl (lv_at hl 0 rfl) ?_
  refine lv_iload_n hx hb dL_addAlert_4 rfl (lv_at hl 1 rfl) ?_
  refine lv_iload_n hx hb dL_addAlert_5 rfl (lv_at hl 2 rfl) ?_
  refine lv_iload_n hx hb dL_addAlert_6 rfl (lv_at hl 3 rfl) ?_
  refine lv_iload hx hb dL_addAlert_7 (lv_at hl 4 rfl) ?_
  refine lv_iload hx hb dL_addAlert_9 (lv_at hl 5 rfl) ?_
  refine lv_iload hx hb dL_addAlert_11 (lv_at hl 6 rfl) ?_
  refine lv_iload hx hb dL_addAlert_13 (lv_at hl 7 rfl) ?_
  refine q_xcatch (D := (fun q => A q ∨ q = zo)) (a := []) (h := (0, 20, 23, 13)) (b := [(0, 20, 27, 15)]) (vx_runV (As := [.int (x0), .int (x1), .int (x2), .int (x3), .int (x4), .int (x5), .int (x6)]) (rest := [.int (nI 0), .ref (zo)]) ⟨hx, hb, hml, hown, hts⟩ (x_addAlert1 l hst G es A σ ad hF x0 x1 x2 x3 x4 x5 x6 hbad) (cwV 7 hts gL_addAlert_X7_addAlert rfl rfl rfl (by decide +kernel) ⟨Nat.le_of_ble_eq_true rfl, Nat.le_of_ble_eq_true rfl⟩) ⟨qX.blind, qrecv hC (hW.to qLV0) rfl, qX.pre hC hW hZ hzT⟩ rfl rfl hl.1 rfl (lv_room (Nat.le_of_ble_eq_true rfl)) dL_addAlert_15 ⟨Nat.le_of_ble_eq_true rfl, Nat.le_of_ble_eq_true rfl⟩) hS (fun _ h => Or.inl h) hown htab rfl (List.forall_mem_nil _) (by decide) (by decide) (hts (.classLink RL 13 "java/lang/IllegalArgumentException") (List.mem_of_getElem? (i := 1) (by decide +kernel))) (q_qw hC (by decide +kernel)) (fun H1 locs q9 hz hk hS => ?_)
  refine lv_astore (lv' := [(9, .ref (q9)), (0, .ref (ad 0 0)), (1, .int (x0)), (2, .int (x1)), (3, .int (x2)), (4, .int (x3)), (5, .int (x4)), (6, .int (x5)), (7, .int (x6)), (8, .ref (zo))]) hx hb dL_addAlert_23 hl (by decide) rfl (fun ls hl => ?_)
  refine lv_iconst (v := nI 1) hx hb dL_addAlert_25 (by decide) ?_
  exact W.iret hx hb hr (fun t ht _ => ⟨rfl, by rw [ht]; exact ⟨hW.same hk, hat.kept (hk zo hat.lt)⟩, hS.F ht⟩) hS.2.2 dL_addAlert_26
set_option maxHeartbeats 4000000 in
set_option maxRecDepth 100000 in
theorem kx_addAlert2 (l : Launch) (hst : l.stackTraces = false) (G : QG) (es : Nat) (A : Nat → Prop) (σ ad : QSt) (hF : qWF σ) (s0 r0 P w0 g0 n0 h0 : Nat) (hs0 : s0 < 4) (hr0 : r0 < 5) (hP : P ≤ 3) (hw0 : w0 < 100) (hg0 : 1 ≤ g0 ∧ g0 ≤ 9) (hn0 : 1 ≤ n0 ∧ n0 ≤ 50) (hh0 : h0 ≤ 20) (hn2 : σ 0 2 = 6) (zo : Nat) (zf : Nat → Int64) (hzo : ¬ A zo) : Met l yL_addAlert wsL_addAlert ({ frames := 7, cells := 1, slots := 6, locals := 112 } : Room) (qLg G es A σ ad zo (.inl (G.2 2, 1, .inr (.inl zf))) [.ref (ad 0 0), .int (nI s0), .int (nI r0), .int (nI P - 1), .int (nI w0), .int (nI g0), .int (nI n0), .int (nI h0), .ref (zo)]) (qWV (some (.int (nI 2))) (fun H => qLW G es A σ ad H ∧ va_at G.1 vwCl (zo, .inl (G.2 2, 1, .inr (.inl zf))) H) (fun q => A q ∨ q = zo)) 1 6 (fun q => A q ∨ q = zo) := by
  refine q_ofWH (cc := cL_addAlert) (maxL := 10) (ret := (some .int)) (hh := [(0, 20, 23, 13), (0, 20, 27, 15)]) (by decide) rfl ?_
  intro p e s m args below meth c s₁ B hml htab hv
  obtain ⟨rfl, hC, hW, hZ, hA, hzT, hzN, hat⟩ := hv
  have hx := B.exec
  have hb := B.bytes
  have hr := B.returns
  have hts := atoms_spec (ws := wsL_addAlert) B.pre
  have hown : s.vm.findClass RL = some m.cls := findClass_of_methodNamed B.named
  have hlocks := B.notSynchronized
  have hS : va_S (fun q => A q ∨ q = zo) s.heap s.heap [] := va_S.rf
  have hl := lv_entry ([.ref (ad 0 0), .int (nI s0), .int (nI r0), .int (nI P - 1), .int (nI w0), .int (nI g0), .int (nI n0), .int (nI h0), .ref (zo)]) (n := 10) (Nat.le_of_ble_eq_true rfl)
  rw [lg_entry_eq]
  generalize (lg_sl ([.ref (ad 0 0), .int (nI s0), .int (nI r0), .int (nI P - 1), .int (nI w0), .int (nI g0), .int (nI n0), .int (nI h0), .ref (zo)]) ++ List.replicate (10 - (lg_sl ([.ref (ad 0 0), .int (nI s0), .int (nI r0), .int (nI P - 1), .int (nI w0), .int (nI g0), .int (nI n0), .int (nI h0), .ref (zo)])).length) Slot.unset).toArray = ls at hl ⊢
  have hl : lv_has ls 10 [(0, .ref (ad 0 0)), (1, .int (nI s0)), (2, .int (nI r0)), (3, .int (nI P - 1)), (4, .int (nI w0)), (5, .int (nI g0)), (6, .int (nI n0)), (7, .int (nI h0)), (8, .ref (zo))] := hl
  refine lv_aload hx hb dL_addAlert_0 (lv_at hl 8 rfl) ?_
  refine lv_iconst (v := nI 0) hx hb dL_addAlert_2 (by decide) ?_
  refine lv_aload_n hx hb dL_addAlert_3 rfl (lv_at hl 0 rfl) ?_
  refine lv_iload_n hx hb dL_addAlert_4 rfl (lv_at hl 1 rfl) ?_
  refine lv_iload_n hx hb dL_addAlert_5 rfl (lv_at hl 2 rfl) ?_
  refine lv_iload_n hx hb dL_addAlert_6 rfl (lv_at hl 3 rfl) ?_
  refine lv_iload hx hb dL_addAlert_7 (lv_at hl 4 rfl) ?_
  refine lv_iload hx hb dL_addAlert_9 (lv_at hl 5 rfl) ?_
  refine lv_iload hx hb dL_addAlert_11 (lv_at hl 6 rfl) ?_
  refine lv_iload hx hb dL_addAlert_13 (lv_at hl 7 rfl) ?_
  refine q_xcatch (D := (fun q => A q ∨ q = zo)) (a := [(0, 20, 23, 13)]) (h := (0, 20, 27, 15)) (b := []) (vx_runV (As := [.int (nI s0), .int (nI r0), .int (nI P - 1), .int (nI w0), .int (nI g0), .int (nI n0), .int (nI h0)]) (rest := [.int (nI 0), .ref (zo)]) ⟨hx, hb, hml, hown, hts⟩ (x_addAlert2 l hst G es A σ ad hF s0 r0 P w0 g0 n0 h0 hs0 hr0 hP hw0 hg0 hn0 hh0 hn2) (cwV 7 hts gL_addAlert_X7_addAlert rfl rfl rfl (by decide +kernel) ⟨Nat.le_of_ble_eq_true rfl, Nat.le_of_ble_eq_true rfl⟩) ⟨qX.blind, qrecv hC (hW.to qLV0) rfl, qX.pre hC hW hZ hzT⟩ rfl rfl hl.1 rfl (lv_room (Nat.le_of_ble_eq_true rfl)) dL_addAlert_15 ⟨Nat.le_of_ble_eq_true rfl, Nat.le_of_ble_eq_true rfl⟩) hS (fun _ h => Or.inl h) hown htab rfl (List.forall_mem_cons.mpr ⟨⟨by decide, "java/lang/IllegalArgumentException", (hts (.classLink RL 13 "java/lang/IllegalArgumentException") (List.mem_of_getElem? (i := 1) (by decide +kernel))), hzN ("java/lang/IllegalStateException", "java/lang/IllegalArgumentException") (by decide)⟩, (List.forall_mem_nil _)⟩) (by decide) (by decide) (hts (.classLink RL 15 "java/lang/IllegalStateException") (List.mem_of_getElem? (i := 2) (by decide +kernel))) (q_qw hC (by decide +kernel)) (fun H1 locs q9 hz hk hS => ?_)
  refine lv_astore (lv' := [(9, .ref (q9)), (0, .ref (ad 0 0)), (1, .int (nI s0)), (2, .int (nI r0)), (3, .int (nI P - 1)), (4, .int (nI w0)), (5, .int (nI g0)), (6, .int (nI n0)), (7, .int (nI h0)), (8, .ref (zo))]) hx hb dL_addAlert_27 hl (by decide) rfl (fun ls hl => ?_)
  refine lv_iconst (v := nI 2) hx hb dL_addAlert_29 (by decide) ?_
  exact W.iret hx hb hr (fun t ht _ => ⟨rfl, by rw [ht]; exact ⟨hW.same hk, hat.kept (hk zo hat.lt)⟩, hS.F ht⟩) hS.2.2 dL_addAlert_30
set_option maxHeartbeats 4000000 in
set_option maxRecDepth 100000 in
theorem kx_alertState1 (l : Launch) (hst : l.stackTraces = false) (G : QG) (es : Nat) (A : Nat → Prop) (σ ad : QSt) (hF : qWF σ) (x : Int32) (hx0 : ¬ rIn x (σ 0 2)) (zo : Nat) (zf : Nat → Int64) (hzo : ¬ A zo) : Met l yL_alertState wsL_alertState ({ frames := 8, cells := 1, slots := 6, locals := 124 } : Room) (qLg G es A σ ad zo (.inl (G.2 2, 1, .inr (.inl zf))) [.ref (ad 0 0), .int (x), .ref (zo)]) (qWV (some (.int (nI 1))) (fun H => qLW G es A σ ad H ∧ va_at G.1 vwCl (zo, .inl (G.2 2, 1, .inr (.inl zf))) H) (fun q => A q ∨ q = zo)) 1 6 (fun q => A q ∨ q = zo) := by
  refine q_ofWH (cc := cL_alertState) (maxL := 4) (ret := (some .int)) (hh := [(0, 9, 12, 65)]) (by decide) rfl ?_
  intro p e s m args below meth c s₁ B hml htab hv
  obtain ⟨rfl, hC, hW, hZ, hA, hzT, hzN, hat⟩ := hv
  have hx := B.exec
  have hb := B.bytes
  have hr := B.returns
  have hts := atoms_spec (ws := wsL_alertState) B.pre
  have hown : s.vm.findClass RL = some m.cls := findClass_of_methodNamed B.named
  have hlocks := B.notSynchronized
  have hS : va_S (fun q => A q ∨ q = zo) s.heap s.heap [] := va_S.rf
  have hl := lv_entry ([.ref (ad 0 0), .int (x), .ref (zo)]) (n := 4) (Nat.le_of_ble_eq_true rfl)
  rw [lg_entry_eq]
  generalize (lg_sl ([.ref (ad 0 0), .int (x), .ref (zo)]) ++ List.replicate (4 - (lg_sl ([.ref (ad 0 0), .int (x), .ref (zo)])).length) Slot.unset).toArray = ls at hl ⊢
  have hl : lv_has ls 4 [(0, .ref (ad 0 0)), (1, .int (x)), (2, .ref (zo))] := hl
  refine lv_aload_n hx hb dL_alertState_0 rfl (lv_at hl 2 rfl) ?_
  refine lv_iconst (v := nI 0) hx hb dL_alertState_1 (by decide) ?_
  refine lv_aload_n hx hb dL_alertState_2 rfl (lv_at hl 0 rfl) ?_
  refine lv_iload_n hx hb dL_alertState_3 rfl (lv_at hl 1 rfl) ?_
  refine q_xcatch (D := (fun q => A q ∨ q = zo)) (a := []) (h := (0, 9, 12, 65)) (b := []) (vx_runV (As := [.int (x)]) (rest := [.int (nI 0), .ref (zo)]) ⟨hx, hb, hml, hown, hts⟩ (x_alertState1 l hst G es A σ ad hF x hx0) (cwV 1 hts gL_alertState_X7_alertState rfl rfl rfl (by decide +kernel) ⟨Nat.le_of_ble_eq_true rfl, Nat.le_of_ble_eq_true rfl⟩) ⟨qX.blind, qrecv hC (hW.to qLV0) rfl, qX.pre hC hW hZ hzT⟩ rfl rfl hl.1 rfl (lv_room (Nat.le_of_ble_eq_true rfl)) dL_alertState_4 ⟨Nat.le_of_ble_eq_true rfl, Nat.le_of_ble_eq_true rfl⟩) hS (fun _ h => Or.inl h) hown htab rfl (List.forall_mem_nil _) (by decide) (by decide) (hts (.classLink RL 65 "java/lang/IndexOutOfBoundsException") (List.mem_of_getElem? (i := 1) (by decide +kernel))) (q_qw hC (by decide +kernel)) (fun H1 locs q9 hz hk hS => ?_)
  refine lv_astore_n (lv' := [(3, .ref (q9)), (0, .ref (ad 0 0)), (1, .int (x)), (2, .ref (zo))]) hx hb dL_alertState_12 rfl hl (by decide) rfl (fun ls hl => ?_)
  refine lv_iconst (v := nI 1) hx hb dL_alertState_13 (by decide) ?_
  exact W.iret hx hb hr (fun t ht _ => ⟨rfl, by rw [ht]; exact ⟨hW.same hk, hat.kept (hk zo hat.lt)⟩, hS.F ht⟩) hS.2.2 dL_alertState_14
set_option maxHeartbeats 4000000 in
set_option maxRecDepth 100000 in
theorem kx_counted1 (l : Launch) (hst : l.stackTraces = false) (G : QG) (es : Nat) (A : Nat → Prop) (σ ad : QSt) (hF : qWF σ) (x : Int32) (hx0 : ¬ rIn x (σ 0 2)) (zo : Nat) (zf : Nat → Int64) (hzo : ¬ A zo) : Met l yL_counted wsL_counted ({ frames := 8, cells := 1, slots := 6, locals := 124 } : Room) (qLg G es A σ ad zo (.inl (G.2 2, 1, .inr (.inl zf))) [.ref (ad 0 0), .int (x), .ref (zo)]) (qWV (some (.int (nI 1))) (fun H => qLW G es A σ ad H ∧ va_at G.1 vwCl (zo, .inl (G.2 2, 1, .inr (.inl zf))) H) (fun q => A q ∨ q = zo)) 1 6 (fun q => A q ∨ q = zo) := by
  refine q_ofWH (cc := cL_counted) (maxL := 4) (ret := (some .int)) (hh := [(0, 9, 12, 65)]) (by decide) rfl ?_
  intro p e s m args below meth c s₁ B hml htab hv
  obtain ⟨rfl, hC, hW, hZ, hA, hzT, hzN, hat⟩ := hv
  have hx := B.exec
  have hb := B.bytes
  have hr := B.returns
  have hts := atoms_spec (ws := wsL_counted) B.pre
  have hown : s.vm.findClass RL = some m.cls := findClass_of_methodNamed B.named
  have hlocks := B.notSynchronized
  have hS : va_S (fun q => A q ∨ q = zo) s.heap s.heap [] := va_S.rf
  have hl := lv_entry ([.ref (ad 0 0), .int (x), .ref (zo)]) (n := 4) (Nat.le_of_ble_eq_true rfl)
  rw [lg_entry_eq]
  generalize (lg_sl ([.ref (ad 0 0), .int (x), .ref (zo)]) ++ List.replicate (4 - (lg_sl ([.ref (ad 0 0), .int (x), .ref (zo)])).length) Slot.unset).toArray = ls at hl ⊢
  have hl : lv_has ls 4 [(0, .ref (ad 0 0)), (1, .int (x)), (2, .ref (zo))] := hl
  refine lv_aload_n hx hb dL_counted_0 rfl (lv_at hl 2 rfl) ?_
  refine lv_iconst (v := nI 0) hx hb dL_counted_1 (by decide) ?_
  refine lv_aload_n hx hb dL_counted_2 rfl (lv_at hl 0 rfl) ?_
  refine lv_iload_n hx hb dL_counted_3 rfl (lv_at hl 1 rfl) ?_
  refine q_xcatch (D := (fun q => A q ∨ q = zo)) (a := []) (h := (0, 9, 12, 65)) (b := []) (vx_runV (As := [.int (x)]) (rest := [.int (nI 0), .ref (zo)]) ⟨hx, hb, hml, hown, hts⟩ (x_counted1 l hst G es A σ ad hF x hx0) (cwV 1 hts gL_counted_X7_counted rfl rfl rfl (by decide +kernel) ⟨Nat.le_of_ble_eq_true rfl, Nat.le_of_ble_eq_true rfl⟩) ⟨qX.blind, qrecv hC (hW.to qLV0) rfl, qX.pre hC hW hZ hzT⟩ rfl rfl hl.1 rfl (lv_room (Nat.le_of_ble_eq_true rfl)) dL_counted_4 ⟨Nat.le_of_ble_eq_true rfl, Nat.le_of_ble_eq_true rfl⟩) hS (fun _ h => Or.inl h) hown htab rfl (List.forall_mem_nil _) (by decide) (by decide) (hts (.classLink RL 65 "java/lang/IndexOutOfBoundsException") (List.mem_of_getElem? (i := 1) (by decide +kernel))) (q_qw hC (by decide +kernel)) (fun H1 locs q9 hz hk hS => ?_)
  refine lv_astore_n (lv' := [(3, .ref (q9)), (0, .ref (ad 0 0)), (1, .int (x)), (2, .ref (zo))]) hx hb dL_counted_12 rfl hl (by decide) rfl (fun ls hl => ?_)
  refine lv_iconst (v := nI 1) hx hb dL_counted_13 (by decide) ?_
  exact W.iret hx hb hr (fun t ht _ => ⟨rfl, by rw [ht]; exact ⟨hW.same hk, hat.kept (hk zo hat.lt)⟩, hS.F ht⟩) hS.2.2 dL_counted_14
set_option maxHeartbeats 4000000 in
set_option maxRecDepth 100000 in
theorem kx_countedAnew1 (l : Launch) (hst : l.stackTraces = false) (G : QG) (es : Nat) (A : Nat → Prop) (σ ad : QSt) (hF : qWF σ) (x : Int32) (hx0 : ¬ rIn x (σ 0 2)) (zo : Nat) (zf : Nat → Int64) (hzo : ¬ A zo) : Met l yL_countedAnew wsL_countedAnew ({ frames := 8, cells := 1, slots := 6, locals := 124 } : Room) (qLg G es A σ ad zo (.inl (G.2 2, 1, .inr (.inl zf))) [.ref (ad 0 0), .int (x), .ref (zo)]) (qWV (some (.int (nI 1))) (fun H => qLW G es A σ ad H ∧ va_at G.1 vwCl (zo, .inl (G.2 2, 1, .inr (.inl zf))) H) (fun q => A q ∨ q = zo)) 1 6 (fun q => A q ∨ q = zo) := by
  refine q_ofWH (cc := cL_countedAnew) (maxL := 4) (ret := (some .int)) (hh := [(0, 9, 12, 65)]) (by decide) rfl ?_
  intro p e s m args below meth c s₁ B hml htab hv
  obtain ⟨rfl, hC, hW, hZ, hA, hzT, hzN, hat⟩ := hv
  have hx := B.exec
  have hb := B.bytes
  have hr := B.returns
  have hts := atoms_spec (ws := wsL_countedAnew) B.pre
  have hown : s.vm.findClass RL = some m.cls := findClass_of_methodNamed B.named
  have hlocks := B.notSynchronized
  have hS : va_S (fun q => A q ∨ q = zo) s.heap s.heap [] := va_S.rf
  have hl := lv_entry ([.ref (ad 0 0), .int (x), .ref (zo)]) (n := 4) (Nat.le_of_ble_eq_true rfl)
  rw [lg_entry_eq]
  generalize (lg_sl ([.ref (ad 0 0), .int (x), .ref (zo)]) ++ List.replicate (4 - (lg_sl ([.ref (ad 0 0), .int (x), .ref (zo)])).length) Slot.unset).toArray = ls at hl ⊢
  have hl : lv_has ls 4 [(0, .ref (ad 0 0)), (1, .int (x)), (2, .ref (zo))] := hl
  refine lv_aload_n hx hb dL_countedAnew_0 rfl (lv_at hl 2 rfl) ?_
  refine lv_iconst (v := nI 0) hx hb dL_countedAnew_1 (by decide) ?_
  refine lv_aload_n hx hb dL_countedAnew_2 rfl (lv_at hl 0 rfl) ?_
  refine lv_iload_n hx hb dL_countedAnew_3 rfl (lv_at hl 1 rfl) ?_
  refine q_xcatch (D := (fun q => A q ∨ q = zo)) (a := []) (h := (0, 9, 12, 65)) (b := []) (vx_runV (As := [.int (x)]) (rest := [.int (nI 0), .ref (zo)]) ⟨hx, hb, hml, hown, hts⟩ (x_countedAnew1 l hst G es A σ ad hF x hx0) (cwV 1 hts gL_countedAnew_X7_countedAnew rfl rfl rfl (by decide +kernel) ⟨Nat.le_of_ble_eq_true rfl, Nat.le_of_ble_eq_true rfl⟩) ⟨qX.blind, qrecv hC (hW.to qLV0) rfl, qX.pre hC hW hZ hzT⟩ rfl rfl hl.1 rfl (lv_room (Nat.le_of_ble_eq_true rfl)) dL_countedAnew_4 ⟨Nat.le_of_ble_eq_true rfl, Nat.le_of_ble_eq_true rfl⟩) hS (fun _ h => Or.inl h) hown htab rfl (List.forall_mem_nil _) (by decide) (by decide) (hts (.classLink RL 65 "java/lang/IndexOutOfBoundsException") (List.mem_of_getElem? (i := 1) (by decide +kernel))) (q_qw hC (by decide +kernel)) (fun H1 locs q9 hz hk hS => ?_)
  refine lv_astore_n (lv' := [(3, .ref (q9)), (0, .ref (ad 0 0)), (1, .int (x)), (2, .ref (zo))]) hx hb dL_countedAnew_12 rfl hl (by decide) rfl (fun ls hl => ?_)
  refine lv_iconst (v := nI 1) hx hb dL_countedAnew_13 (by decide) ?_
  exact W.iret hx hb hr (fun t ht _ => ⟨rfl, by rw [ht]; exact ⟨hW.same hk, hat.kept (hk zo hat.lt)⟩, hS.F ht⟩) hS.2.2 dL_countedAnew_14
set_option maxHeartbeats 4000000 in
set_option maxRecDepth 100000 in
theorem kx_heldFor1 (l : Launch) (hst : l.stackTraces = false) (G : QG) (es : Nat) (A : Nat → Prop) (σ ad : QSt) (hF : qWF σ) (x : Int32) (hx0 : ¬ rIn x (σ 0 2)) (zo : Nat) (zf : Nat → Int64) (hzo : ¬ A zo) : Met l yL_heldFor wsL_heldFor ({ frames := 8, cells := 1, slots := 6, locals := 124 } : Room) (qLg G es A σ ad zo (.inl (G.2 2, 1, .inr (.inl zf))) [.ref (ad 0 0), .int (x), .ref (zo)]) (qWV (some (.int (nI 1))) (fun H => qLW G es A σ ad H ∧ va_at G.1 vwCl (zo, .inl (G.2 2, 1, .inr (.inl zf))) H) (fun q => A q ∨ q = zo)) 1 6 (fun q => A q ∨ q = zo) := by
  refine q_ofWH (cc := cL_heldFor) (maxL := 4) (ret := (some .int)) (hh := [(0, 9, 12, 65)]) (by decide) rfl ?_
  intro p e s m args below meth c s₁ B hml htab hv
  obtain ⟨rfl, hC, hW, hZ, hA, hzT, hzN, hat⟩ := hv
  have hx := B.exec
  have hb := B.bytes
  have hr := B.returns
  have hts := atoms_spec (ws := wsL_heldFor) B.pre
  have hown : s.vm.findClass RL = some m.cls := findClass_of_methodNamed B.named
  have hlocks := B.notSynchronized
  have hS : va_S (fun q => A q ∨ q = zo) s.heap s.heap [] := va_S.rf
  have hl := lv_entry ([.ref (ad 0 0), .int (x), .ref (zo)]) (n := 4) (Nat.le_of_ble_eq_true rfl)
  rw [lg_entry_eq]
  generalize (lg_sl ([.ref (ad 0 0), .int (x), .ref (zo)]) ++ List.replicate (4 - (lg_sl ([.ref (ad 0 0), .int (x), .ref (zo)])).length) Slot.unset).toArray = ls at hl ⊢
  have hl : lv_has ls 4 [(0, .ref (ad 0 0)), (1, .int (x)), (2, .ref (zo))] := hl
  refine lv_aload_n hx hb dL_heldFor_0 rfl (lv_at hl 2 rfl) ?_
  refine lv_iconst (v := nI 0) hx hb dL_heldFor_1 (by decide) ?_
  refine lv_aload_n hx hb dL_heldFor_2 rfl (lv_at hl 0 rfl) ?_
  refine lv_iload_n hx hb dL_heldFor_3 rfl (lv_at hl 1 rfl) ?_
  refine q_xcatch (D := (fun q => A q ∨ q = zo)) (a := []) (h := (0, 9, 12, 65)) (b := []) (vx_runV (As := [.int (x)]) (rest := [.int (nI 0), .ref (zo)]) ⟨hx, hb, hml, hown, hts⟩ (x_heldFor1 l hst G es A σ ad hF x hx0) (cwV 1 hts gL_heldFor_X7_heldFor rfl rfl rfl (by decide +kernel) ⟨Nat.le_of_ble_eq_true rfl, Nat.le_of_ble_eq_true rfl⟩) ⟨qX.blind, qrecv hC (hW.to qLV0) rfl, qX.pre hC hW hZ hzT⟩ rfl rfl hl.1 rfl (lv_room (Nat.le_of_ble_eq_true rfl)) dL_heldFor_4 ⟨Nat.le_of_ble_eq_true rfl, Nat.le_of_ble_eq_true rfl⟩) hS (fun _ h => Or.inl h) hown htab rfl (List.forall_mem_nil _) (by decide) (by decide) (hts (.classLink RL 65 "java/lang/IndexOutOfBoundsException") (List.mem_of_getElem? (i := 1) (by decide +kernel))) (q_qw hC (by decide +kernel)) (fun H1 locs q9 hz hk hS => ?_)
  refine lv_astore_n (lv' := [(3, .ref (q9)), (0, .ref (ad 0 0)), (1, .int (x)), (2, .ref (zo))]) hx hb dL_heldFor_12 rfl hl (by decide) rfl (fun ls hl => ?_)
  refine lv_iconst (v := nI 1) hx hb dL_heldFor_13 (by decide) ?_
  exact W.iret hx hb hr (fun t ht _ => ⟨rfl, by rw [ht]; exact ⟨hW.same hk, hat.kept (hk zo hat.lt)⟩, hS.F ht⟩) hS.2.2 dL_heldFor_14
set_option maxHeartbeats 4000000 in
set_option maxRecDepth 100000 in
theorem kx_alertOf1 (l : Launch) (hst : l.stackTraces = false) (G : QG) (es : Nat) (A : Nat → Prop) (σ ad : QSt) (hF : qWF σ) (x : Int32) (hx0 : ¬ rIn x (σ 0 3)) (zo : Nat) (zf : Nat → Int64) (hzo : ¬ A zo) : Met l yL_alertOf wsL_alertOf ({ frames := 8, cells := 1, slots := 6, locals := 124 } : Room) (qLg G es A σ ad zo (.inl (G.2 2, 1, .inr (.inl zf))) [.ref (ad 0 0), .int (x), .ref (zo)]) (qWV (some (.int (nI 1))) (fun H => qLW G es A σ ad H ∧ va_at G.1 vwCl (zo, .inl (G.2 2, 1, .inr (.inl zf))) H) (fun q => A q ∨ q = zo)) 1 6 (fun q => A q ∨ q = zo) := by
  refine q_ofWH (cc := cL_alertOf) (maxL := 4) (ret := (some .int)) (hh := [(0, 9, 12, 21)]) (by decide) rfl ?_
  intro p e s m args below meth c s₁ B hml htab hv
  obtain ⟨rfl, hC, hW, hZ, hA, hzT, hzN, hat⟩ := hv
  have hx := B.exec
  have hb := B.bytes
  have hr := B.returns
  have hts := atoms_spec (ws := wsL_alertOf) B.pre
  have hown : s.vm.findClass RL = some m.cls := findClass_of_methodNamed B.named
  have hlocks := B.notSynchronized
  have hS : va_S (fun q => A q ∨ q = zo) s.heap s.heap [] := va_S.rf
  have hl := lv_entry ([.ref (ad 0 0), .int (x), .ref (zo)]) (n := 4) (Nat.le_of_ble_eq_true rfl)
  rw [lg_entry_eq]
  generalize (lg_sl ([.ref (ad 0 0), .int (x), .ref (zo)]) ++ List.replicate (4 - (lg_sl ([.ref (ad 0 0), .int (x), .ref (zo)])).length) Slot.unset).toArray = ls at hl ⊢
  have hl : lv_has ls 4 [(0, .ref (ad 0 0)), (1, .int (x)), (2, .ref (zo))] := hl
  refine lv_aload_n hx hb dL_alertOf_0 rfl (lv_at hl 2 rfl) ?_
  refine lv_iconst (v := nI 0) hx hb dL_alertOf_1 (by decide) ?_
  refine lv_aload_n hx hb dL_alertOf_2 rfl (lv_at hl 0 rfl) ?_
  refine lv_iload_n hx hb dL_alertOf_3 rfl (lv_at hl 1 rfl) ?_
  refine q_xcatch (D := (fun q => A q ∨ q = zo)) (a := []) (h := (0, 9, 12, 21)) (b := []) (vx_runV (As := [.int (x)]) (rest := [.int (nI 0), .ref (zo)]) ⟨hx, hb, hml, hown, hts⟩ (x_alertOf1 l hst G es A σ ad hF x hx0) (cwV 1 hts gL_alertOf_X7_alertOf rfl rfl rfl (by decide +kernel) ⟨Nat.le_of_ble_eq_true rfl, Nat.le_of_ble_eq_true rfl⟩) ⟨qX.blind, qrecv hC (hW.to qLV0) rfl, qX.pre hC hW hZ hzT⟩ rfl rfl hl.1 rfl (lv_room (Nat.le_of_ble_eq_true rfl)) dL_alertOf_4 ⟨Nat.le_of_ble_eq_true rfl, Nat.le_of_ble_eq_true rfl⟩) hS (fun _ h => Or.inl h) hown htab rfl (List.forall_mem_nil _) (by decide) (by decide) (hts (.classLink RL 21 "java/util/NoSuchElementException") (List.mem_of_getElem? (i := 1) (by decide +kernel))) (q_qw hC (by decide +kernel)) (fun H1 locs q9 hz hk hS => ?_)
  refine lv_astore_n (lv' := [(3, .ref (q9)), (0, .ref (ad 0 0)), (1, .int (x)), (2, .ref (zo))]) hx hb dL_alertOf_12 rfl hl (by decide) rfl (fun ls hl => ?_)
  refine lv_iconst (v := nI 1) hx hb dL_alertOf_13 (by decide) ?_
  exact W.iret hx hb hr (fun t ht _ => ⟨rfl, by rw [ht]; exact ⟨hW.same hk, hat.kept (hk zo hat.lt)⟩, hS.F ht⟩) hS.2.2 dL_alertOf_14
set_option maxHeartbeats 4000000 in
set_option maxRecDepth 100000 in
theorem kx_firedAt1 (l : Launch) (hst : l.stackTraces = false) (G : QG) (es : Nat) (A : Nat → Prop) (σ ad : QSt) (hF : qWF σ) (x : Int32) (hx0 : ¬ rIn x (σ 0 3)) (zo : Nat) (zf : Nat → Int64) (hzo : ¬ A zo) : Met l yL_firedAt wsL_firedAt ({ frames := 8, cells := 1, slots := 6, locals := 124 } : Room) (qLg G es A σ ad zo (.inl (G.2 2, 1, .inr (.inl zf))) [.ref (ad 0 0), .int (x), .ref (zo)]) (qWV (some (.int (nI 1))) (fun H => qLW G es A σ ad H ∧ va_at G.1 vwCl (zo, .inl (G.2 2, 1, .inr (.inl zf))) H) (fun q => A q ∨ q = zo)) 1 6 (fun q => A q ∨ q = zo) := by
  refine q_ofWH (cc := cL_firedAt) (maxL := 4) (ret := (some .int)) (hh := [(0, 9, 12, 21)]) (by decide) rfl ?_
  intro p e s m args below meth c s₁ B hml htab hv
  obtain ⟨rfl, hC, hW, hZ, hA, hzT, hzN, hat⟩ := hv
  have hx := B.exec
  have hb := B.bytes
  have hr := B.returns
  have hts := atoms_spec (ws := wsL_firedAt) B.pre
  have hown : s.vm.findClass RL = some m.cls := findClass_of_methodNamed B.named
  have hlocks := B.notSynchronized
  have hS : va_S (fun q => A q ∨ q = zo) s.heap s.heap [] := va_S.rf
  have hl := lv_entry ([.ref (ad 0 0), .int (x), .ref (zo)]) (n := 4) (Nat.le_of_ble_eq_true rfl)
  rw [lg_entry_eq]
  generalize (lg_sl ([.ref (ad 0 0), .int (x), .ref (zo)]) ++ List.replicate (4 - (lg_sl ([.ref (ad 0 0), .int (x), .ref (zo)])).length) Slot.unset).toArray = ls at hl ⊢
  have hl : lv_has ls 4 [(0, .ref (ad 0 0)), (1, .int (x)), (2, .ref (zo))] := hl
  refine lv_aload_n hx hb dL_firedAt_0 rfl (lv_at hl 2 rfl) ?_
  refine lv_iconst (v := nI 0) hx hb dL_firedAt_1 (by decide) ?_
  refine lv_aload_n hx hb dL_firedAt_2 rfl (lv_at hl 0 rfl) ?_
  refine lv_iload_n hx hb dL_firedAt_3 rfl (lv_at hl 1 rfl) ?_
  refine q_xcatch (D := (fun q => A q ∨ q = zo)) (a := []) (h := (0, 9, 12, 21)) (b := []) (vx_runV (As := [.int (x)]) (rest := [.int (nI 0), .ref (zo)]) ⟨hx, hb, hml, hown, hts⟩ (x_firedAt1 l hst G es A σ ad hF x hx0) (cwV 1 hts gL_firedAt_X7_firedAt rfl rfl rfl (by decide +kernel) ⟨Nat.le_of_ble_eq_true rfl, Nat.le_of_ble_eq_true rfl⟩) ⟨qX.blind, qrecv hC (hW.to qLV0) rfl, qX.pre hC hW hZ hzT⟩ rfl rfl hl.1 rfl (lv_room (Nat.le_of_ble_eq_true rfl)) dL_firedAt_4 ⟨Nat.le_of_ble_eq_true rfl, Nat.le_of_ble_eq_true rfl⟩) hS (fun _ h => Or.inl h) hown htab rfl (List.forall_mem_nil _) (by decide) (by decide) (hts (.classLink RL 21 "java/util/NoSuchElementException") (List.mem_of_getElem? (i := 1) (by decide +kernel))) (q_qw hC (by decide +kernel)) (fun H1 locs q9 hz hk hS => ?_)
  refine lv_astore_n (lv' := [(3, .ref (q9)), (0, .ref (ad 0 0)), (1, .int (x)), (2, .ref (zo))]) hx hb dL_firedAt_12 rfl hl (by decide) rfl (fun ls hl => ?_)
  refine lv_iconst (v := nI 1) hx hb dL_firedAt_13 (by decide) ?_
  exact W.iret hx hb hr (fun t ht _ => ⟨rfl, by rw [ht]; exact ⟨hW.same hk, hat.kept (hk zo hat.lt)⟩, hS.F ht⟩) hS.2.2 dL_firedAt_14
set_option maxHeartbeats 4000000 in
set_option maxRecDepth 100000 in
theorem kx_ground1 (l : Launch) (hst : l.stackTraces = false) (G : QG) (es : Nat) (A : Nat → Prop) (σ ad : QSt) (hF : qWF σ) (x : Int32) (hx0 : ¬ rIn x (σ 0 3)) (zo : Nat) (zf : Nat → Int64) (hzo : ¬ A zo) : Met l yL_ground wsL_ground ({ frames := 8, cells := 1, slots := 6, locals := 124 } : Room) (qLg G es A σ ad zo (.inl (G.2 2, 1, .inr (.inl zf))) [.ref (ad 0 0), .int (x), .ref (zo)]) (qWV (some (.int (nI 1))) (fun H => qLW G es A σ ad H ∧ va_at G.1 vwCl (zo, .inl (G.2 2, 1, .inr (.inl zf))) H) (fun q => A q ∨ q = zo)) 1 6 (fun q => A q ∨ q = zo) := by
  refine q_ofWH (cc := cL_ground) (maxL := 4) (ret := (some .int)) (hh := [(0, 9, 12, 21)]) (by decide) rfl ?_
  intro p e s m args below meth c s₁ B hml htab hv
  obtain ⟨rfl, hC, hW, hZ, hA, hzT, hzN, hat⟩ := hv
  have hx := B.exec
  have hb := B.bytes
  have hr := B.returns
  have hts := atoms_spec (ws := wsL_ground) B.pre
  have hown : s.vm.findClass RL = some m.cls := findClass_of_methodNamed B.named
  have hlocks := B.notSynchronized
  have hS : va_S (fun q => A q ∨ q = zo) s.heap s.heap [] := va_S.rf
  have hl := lv_entry ([.ref (ad 0 0), .int (x), .ref (zo)]) (n := 4) (Nat.le_of_ble_eq_true rfl)
  rw [lg_entry_eq]
  generalize (lg_sl ([.ref (ad 0 0), .int (x), .ref (zo)]) ++ List.replicate (4 - (lg_sl ([.ref (ad 0 0), .int (x), .ref (zo)])).length) Slot.unset).toArray = ls at hl ⊢
  have hl : lv_has ls 4 [(0, .ref (ad 0 0)), (1, .int (x)), (2, .ref (zo))] := hl
  refine lv_aload_n hx hb dL_ground_0 rfl (lv_at hl 2 rfl) ?_
  refine lv_iconst (v := nI 0) hx hb dL_ground_1 (by decide) ?_
  refine lv_aload_n hx hb dL_ground_2 rfl (lv_at hl 0 rfl) ?_
  refine lv_iload_n hx hb dL_ground_3 rfl (lv_at hl 1 rfl) ?_
  refine q_xcatch (D := (fun q => A q ∨ q = zo)) (a := []) (h := (0, 9, 12, 21)) (b := []) (vx_runV (As := [.int (x)]) (rest := [.int (nI 0), .ref (zo)]) ⟨hx, hb, hml, hown, hts⟩ (x_ground1 l hst G es A σ ad hF x hx0) (cwV 1 hts gL_ground_X7_ground rfl rfl rfl (by decide +kernel) ⟨Nat.le_of_ble_eq_true rfl, Nat.le_of_ble_eq_true rfl⟩) ⟨qX.blind, qrecv hC (hW.to qLV0) rfl, qX.pre hC hW hZ hzT⟩ rfl rfl hl.1 rfl (lv_room (Nat.le_of_ble_eq_true rfl)) dL_ground_4 ⟨Nat.le_of_ble_eq_true rfl, Nat.le_of_ble_eq_true rfl⟩) hS (fun _ h => Or.inl h) hown htab rfl (List.forall_mem_nil _) (by decide) (by decide) (hts (.classLink RL 21 "java/util/NoSuchElementException") (List.mem_of_getElem? (i := 1) (by decide +kernel))) (q_qw hC (by decide +kernel)) (fun H1 locs q9 hz hk hS => ?_)
  refine lv_astore_n (lv' := [(3, .ref (q9)), (0, .ref (ad 0 0)), (1, .int (x)), (2, .ref (zo))]) hx hb dL_ground_12 rfl hl (by decide) rfl (fun ls hl => ?_)
  refine lv_iconst (v := nI 1) hx hb dL_ground_13 (by decide) ?_
  exact W.iret hx hb hr (fun t ht _ => ⟨rfl, by rw [ht]; exact ⟨hW.same hk, hat.kept (hk zo hat.lt)⟩, hS.F ht⟩) hS.2.2 dL_ground_14
set_option maxHeartbeats 4000000 in
set_option maxRecDepth 100000 in
theorem kx_standsOn1 (l : Launch) (hst : l.stackTraces = false) (G : QG) (es : Nat) (A : Nat → Prop) (σ ad : QSt) (hF : qWF σ) (x : Int32) (hx0 : ¬ rIn x (σ 0 3)) (y : Int32) (zo : Nat) (zf : Nat → Int64) (hzo : ¬ A zo) : Met l yL_standsOn wsL_standsOn ({ frames := 8, cells := 1, slots := 6, locals := 126 } : Room) (qLg G es A σ ad zo (.inl (G.2 2, 1, .inr (.inl zf))) [.ref (ad 0 0), .int (x), .int (y), .ref (zo)]) (qWV (some (.int (nI 1))) (fun H => qLW G es A σ ad H ∧ va_at G.1 vwCl (zo, .inl (G.2 2, 1, .inr (.inl zf))) H) (fun q => A q ∨ q = zo)) 1 6 (fun q => A q ∨ q = zo) := by
  refine q_ofWH (cc := cL_standsOn) (maxL := 5) (ret := (some .int)) (hh := [(0, 17, 20, 21)]) (by decide) rfl ?_
  intro p e s m args below meth c s₁ B hml htab hv
  obtain ⟨rfl, hC, hW, hZ, hA, hzT, hzN, hat⟩ := hv
  have hx := B.exec
  have hb := B.bytes
  have hr := B.returns
  have hts := atoms_spec (ws := wsL_standsOn) B.pre
  have hown : s.vm.findClass RL = some m.cls := findClass_of_methodNamed B.named
  have hlocks := B.notSynchronized
  have hS : va_S (fun q => A q ∨ q = zo) s.heap s.heap [] := va_S.rf
  have hl := lv_entry ([.ref (ad 0 0), .int (x), .int (y), .ref (zo)]) (n := 5) (Nat.le_of_ble_eq_true rfl)
  rw [lg_entry_eq]
  generalize (lg_sl ([.ref (ad 0 0), .int (x), .int (y), .ref (zo)]) ++ List.replicate (5 - (lg_sl ([.ref (ad 0 0), .int (x), .int (y), .ref (zo)])).length) Slot.unset).toArray = ls at hl ⊢
  have hl : lv_has ls 5 [(0, .ref (ad 0 0)), (1, .int (x)), (2, .int (y)), (3, .ref (zo))] := hl
  refine lv_aload_n hx hb dL_standsOn_0 rfl (lv_at hl 3 rfl) ?_
  refine lv_iconst (v := nI 0) hx hb dL_standsOn_1 (by decide) ?_
  refine lv_aload_n hx hb dL_standsOn_2 rfl (lv_at hl 0 rfl) ?_
  refine lv_iload_n hx hb dL_standsOn_3 rfl (lv_at hl 1 rfl) ?_
  refine lv_iload_n hx hb dL_standsOn_4 rfl (lv_at hl 2 rfl) ?_
  refine q_xcatch (D := (fun q => A q ∨ q = zo)) (a := []) (h := (0, 17, 20, 21)) (b := []) (vx_runV (As := [.int (x), .int (y)]) (rest := [.int (nI 0), .ref (zo)]) ⟨hx, hb, hml, hown, hts⟩ (x_standsOn1 l hst G es A σ ad hF x hx0 y) (cwV 2 hts gL_standsOn_X7_standsOn rfl rfl rfl (by decide +kernel) ⟨Nat.le_of_ble_eq_true rfl, Nat.le_of_ble_eq_true rfl⟩) ⟨qX.blind, qrecv hC (hW.to qLV0) rfl, qX.pre hC hW hZ hzT⟩ rfl rfl hl.1 rfl (lv_room (Nat.le_of_ble_eq_true rfl)) dL_standsOn_5 ⟨Nat.le_of_ble_eq_true rfl, Nat.le_of_ble_eq_true rfl⟩) hS (fun _ h => Or.inl h) hown htab rfl (List.forall_mem_nil _) (by decide) (by decide) (hts (.classLink RL 21 "java/util/NoSuchElementException") (List.mem_of_getElem? (i := 1) (by decide +kernel))) (q_qw hC (by decide +kernel)) (fun H1 locs q9 hz hk hS => ?_)
  refine lv_astore (lv' := [(4, .ref (q9)), (0, .ref (ad 0 0)), (1, .int (x)), (2, .int (y)), (3, .ref (zo))]) hx hb dL_standsOn_20 hl (by decide) rfl (fun ls hl => ?_)
  refine lv_iconst (v := nI 1) hx hb dL_standsOn_22 (by decide) ?_
  exact W.iret hx hb hr (fun t ht _ => ⟨rfl, by rw [ht]; exact ⟨hW.same hk, hat.kept (hk zo hat.lt)⟩, hS.F ht⟩) hS.2.2 dL_standsOn_23
set_option maxHeartbeats 4000000 in
set_option maxRecDepth 100000 in
theorem kx_standsOn1l (l : Launch) (hst : l.stackTraces = false) (G : QG) (es : Nat) (A : Nat → Prop) (σ ad : QSt) (hF : qWF σ) (f : Nat) (hf : f < σ 0 3) (x : Int32) (hx0 : ¬ rIn x (σ 0 0)) (zo : Nat) (zf : Nat → Int64) (hzo : ¬ A zo) : Met l yL_standsOn wsL_standsOn ({ frames := 8, cells := 1, slots := 6, locals := 126 } : Room) (qLg G es A σ ad zo (.inl (G.2 2, 1, .inr (.inl zf))) [.ref (ad 0 0), .int (nI f), .int (x), .ref (zo)]) (qWV (some (.int (nI 1))) (fun H => qLW G es A σ ad H ∧ va_at G.1 vwCl (zo, .inl (G.2 2, 1, .inr (.inl zf))) H) (fun q => A q ∨ q = zo)) 1 6 (fun q => A q ∨ q = zo) := by
  refine q_ofWH (cc := cL_standsOn) (maxL := 5) (ret := (some .int)) (hh := [(0, 17, 20, 21)]) (by decide) rfl ?_
  intro p e s m args below meth c s₁ B hml htab hv
  obtain ⟨rfl, hC, hW, hZ, hA, hzT, hzN, hat⟩ := hv
  have hx := B.exec
  have hb := B.bytes
  have hr := B.returns
  have hts := atoms_spec (ws := wsL_standsOn) B.pre
  have hown : s.vm.findClass RL = some m.cls := findClass_of_methodNamed B.named
  have hlocks := B.notSynchronized
  have hS : va_S (fun q => A q ∨ q = zo) s.heap s.heap [] := va_S.rf
  have hl := lv_entry ([.ref (ad 0 0), .int (nI f), .int (x), .ref (zo)]) (n := 5) (Nat.le_of_ble_eq_true rfl)
  rw [lg_entry_eq]
  generalize (lg_sl ([.ref (ad 0 0), .int (nI f), .int (x), .ref (zo)]) ++ List.replicate (5 - (lg_sl ([.ref (ad 0 0), .int (nI f), .int (x), .ref (zo)])).length) Slot.unset).toArray = ls at hl ⊢
  have hl : lv_has ls 5 [(0, .ref (ad 0 0)), (1, .int (nI f)), (2, .int (x)), (3, .ref (zo))] := hl
  refine lv_aload_n hx hb dL_standsOn_0 rfl (lv_at hl 3 rfl) ?_
  refine lv_iconst (v := nI 0) hx hb dL_standsOn_1 (by decide) ?_
  refine lv_aload_n hx hb dL_standsOn_2 rfl (lv_at hl 0 rfl) ?_
  refine lv_iload_n hx hb dL_standsOn_3 rfl (lv_at hl 1 rfl) ?_
  refine lv_iload_n hx hb dL_standsOn_4 rfl (lv_at hl 2 rfl) ?_
  refine q_xcatch (D := (fun q => A q ∨ q = zo)) (a := []) (h := (0, 17, 20, 21)) (b := []) (vx_runV (As := [.int (nI f), .int (x)]) (rest := [.int (nI 0), .ref (zo)]) ⟨hx, hb, hml, hown, hts⟩ (x_standsOn1l l hst G es A σ ad hF f hf x hx0) (cwV 2 hts gL_standsOn_X7_standsOn rfl rfl rfl (by decide +kernel) ⟨Nat.le_of_ble_eq_true rfl, Nat.le_of_ble_eq_true rfl⟩) ⟨qX.blind, qrecv hC (hW.to qLV0) rfl, qX.pre hC hW hZ hzT⟩ rfl rfl hl.1 rfl (lv_room (Nat.le_of_ble_eq_true rfl)) dL_standsOn_5 ⟨Nat.le_of_ble_eq_true rfl, Nat.le_of_ble_eq_true rfl⟩) hS (fun _ h => Or.inl h) hown htab rfl (List.forall_mem_nil _) (by decide) (by decide) (hts (.classLink RL 21 "java/util/NoSuchElementException") (List.mem_of_getElem? (i := 1) (by decide +kernel))) (q_qw hC (by decide +kernel)) (fun H1 locs q9 hz hk hS => ?_)
  refine lv_astore (lv' := [(4, .ref (q9)), (0, .ref (ad 0 0)), (1, .int (nI f)), (2, .int (x)), (3, .ref (zo))]) hx hb dL_standsOn_20 hl (by decide) rfl (fun ls hl => ?_)
  refine lv_iconst (v := nI 1) hx hb dL_standsOn_22 (by decide) ?_
  exact W.iret hx hb hr (fun t ht _ => ⟨rfl, by rw [ht]; exact ⟨hW.same hk, hat.kept (hk zo hat.lt)⟩, hS.F ht⟩) hS.2.2 dL_standsOn_23
set_option maxHeartbeats 4000000 in
set_option maxRecDepth 100000 in
theorem kx_release1 (l : Launch) (hst : l.stackTraces = false) (G : QG) (es : Nat) (A : Nat → Prop) (σ ad : QSt) (hF : qWF σ) (x : Int32) (hx0 : ¬ rIn x (σ 0 3)) (zo : Nat) (zf : Nat → Int64) (hzo : ¬ A zo) : Met l yL_release wsL_release ({ frames := 8, cells := 1, slots := 6, locals := 125 } : Room) (qLg G es A σ ad zo (.inl (G.2 2, 1, .inr (.inl zf))) [.ref (ad 0 0), .int (x), .ref (zo)]) (qWV (some (.int (nI 1))) (fun H => qLW G es A σ ad H ∧ va_at G.1 vwCl (zo, .inl (G.2 2, 1, .inr (.inl zf))) H) (fun q => A q ∨ q = zo)) 1 6 (fun q => A q ∨ q = zo) := by
  refine q_ofWH (cc := cL_release) (maxL := 4) (ret := (some .int)) (hh := [(0, 9, 12, 21), (0, 9, 15, 15), (0, 9, 18, 92)]) (by decide) rfl ?_
  intro p e s m args below meth c s₁ B hml htab hv
  obtain ⟨rfl, hC, hW, hZ, hA, hzT, hzN, hat⟩ := hv
  have hx := B.exec
  have hb := B.bytes
  have hr := B.returns
  have hts := atoms_spec (ws := wsL_release) B.pre
  have hown : s.vm.findClass RL = some m.cls := findClass_of_methodNamed B.named
  have hlocks := B.notSynchronized
  have hS : va_S (fun q => A q ∨ q = zo) s.heap s.heap [] := va_S.rf
  have hl := lv_entry ([.ref (ad 0 0), .int (x), .ref (zo)]) (n := 4) (Nat.le_of_ble_eq_true rfl)
  rw [lg_entry_eq]
  generalize (lg_sl ([.ref (ad 0 0), .int (x), .ref (zo)]) ++ List.replicate (4 - (lg_sl ([.ref (ad 0 0), .int (x), .ref (zo)])).length) Slot.unset).toArray = ls at hl ⊢
  have hl : lv_has ls 4 [(0, .ref (ad 0 0)), (1, .int (x)), (2, .ref (zo))] := hl
  refine lv_aload_n hx hb dL_release_0 rfl (lv_at hl 2 rfl) ?_
  refine lv_iconst (v := nI 0) hx hb dL_release_1 (by decide) ?_
  refine lv_aload_n hx hb dL_release_2 rfl (lv_at hl 0 rfl) ?_
  refine lv_iload_n hx hb dL_release_3 rfl (lv_at hl 1 rfl) ?_
  refine q_xcatch (D := (fun q => A q ∨ q = zo)) (a := []) (h := (0, 9, 12, 21)) (b := [(0, 9, 15, 15), (0, 9, 18, 92)]) (vx_runV (As := [.int (x)]) (rest := [.int (nI 0), .ref (zo)]) ⟨hx, hb, hml, hown, hts⟩ (x_release1 l hst G es A σ ad hF x hx0) (cwV 1 hts gL_release_X7_release rfl rfl rfl (by decide +kernel) ⟨Nat.le_of_ble_eq_true rfl, Nat.le_of_ble_eq_true rfl⟩) ⟨qX.blind, qrecv hC (hW.to qLV0) rfl, qX.pre hC hW hZ hzT⟩ rfl rfl hl.1 rfl (lv_room (Nat.le_of_ble_eq_true rfl)) dL_release_4 ⟨Nat.le_of_ble_eq_true rfl, Nat.le_of_ble_eq_true rfl⟩) hS (fun _ h => Or.inl h) hown htab rfl (List.forall_mem_nil _) (by decide) (by decide) (hts (.classLink RL 21 "java/util/NoSuchElementException") (List.mem_of_getElem? (i := 1) (by decide +kernel))) (q_qw hC (by decide +kernel)) (fun H1 locs q9 hz hk hS => ?_)
  refine lv_astore_n (lv' := [(3, .ref (q9)), (0, .ref (ad 0 0)), (1, .int (x)), (2, .ref (zo))]) hx hb dL_release_12 rfl hl (by decide) rfl (fun ls hl => ?_)
  refine lv_iconst (v := nI 1) hx hb dL_release_13 (by decide) ?_
  exact W.iret hx hb hr (fun t ht _ => ⟨rfl, by rw [ht]; exact ⟨hW.same hk, hat.kept (hk zo hat.lt)⟩, hS.F ht⟩) hS.2.2 dL_release_14
set_option maxHeartbeats 4000000 in
set_option maxRecDepth 100000 in
theorem kx_release2 (l : Launch) (hst : l.stackTraces = false) (G : QG) (es : Nat) (A : Nat → Prop) (σ ad : QSt) (hF : qWF σ) (f : Nat) (hf : f < σ 0 3) (h1 : σ 162 f = 1) (zo : Nat) (zf : Nat → Int64) (hzo : ¬ A zo) : Met l yL_release wsL_release ({ frames := 7, cells := 1, slots := 6, locals := 107 } : Room) (qLg G es A σ ad zo (.inl (G.2 2, 1, .inr (.inl zf))) [.ref (ad 0 0), .int (nI f), .ref (zo)]) (qWV (some (.int (nI 2))) (fun H => qLW G es A σ ad H ∧ va_at G.1 vwCl (zo, .inl (G.2 2, 1, .inr (.inl zf))) H) (fun q => A q ∨ q = zo)) 1 6 (fun q => A q ∨ q = zo) := by
  refine q_ofWH (cc := cL_release) (maxL := 4) (ret := (some .int)) (hh := [(0, 9, 12, 21), (0, 9, 15, 15), (0, 9, 18, 92)]) (by decide) rfl ?_
  intro p e s m args below meth c s₁ B hml htab hv
  obtain ⟨rfl, hC, hW, hZ, hA, hzT, hzN, hat⟩ := hv
  have hx := B.exec
  have hb := B.bytes
  have hr := B.returns
  have hts := atoms_spec (ws := wsL_release) B.pre
  have hown : s.vm.findClass RL = some m.cls := findClass_of_methodNamed B.named
  have hlocks := B.notSynchronized
  have hS : va_S (fun q => A q ∨ q = zo) s.heap s.heap [] := va_S.rf
  have hl := lv_entry ([.ref (ad 0 0), .int (nI f), .ref (zo)]) (n := 4) (Nat.le_of_ble_eq_true rfl)
  rw [lg_entry_eq]
  generalize (lg_sl ([.ref (ad 0 0), .int (nI f), .ref (zo)]) ++ List.replicate (4 - (lg_sl ([.ref (ad 0 0), .int (nI f), .ref (zo)])).length) Slot.unset).toArray = ls at hl ⊢
  have hl : lv_has ls 4 [(0, .ref (ad 0 0)), (1, .int (nI f)), (2, .ref (zo))] := hl
  refine lv_aload_n hx hb dL_release_0 rfl (lv_at hl 2 rfl) ?_
  refine lv_iconst (v := nI 0) hx hb dL_release_1 (by decide) ?_
  refine lv_aload_n hx hb dL_release_2 rfl (lv_at hl 0 rfl) ?_
  refine lv_iload_n hx hb dL_release_3 rfl (lv_at hl 1 rfl) ?_
  refine q_xcatch (D := (fun q => A q ∨ q = zo)) (a := [(0, 9, 12, 21)]) (h := (0, 9, 15, 15)) (b := [(0, 9, 18, 92)]) (vx_runV (As := [.int (nI f)]) (rest := [.int (nI 0), .ref (zo)]) ⟨hx, hb, hml, hown, hts⟩ (x_release2 l hst G es A σ ad hF f hf h1) (cwV 1 hts gL_release_X7_release rfl rfl rfl (by decide +kernel) ⟨Nat.le_of_ble_eq_true rfl, Nat.le_of_ble_eq_true rfl⟩) ⟨qX.blind, qrecv hC (hW.to qLV0) rfl, qX.pre hC hW hZ hzT⟩ rfl rfl hl.1 rfl (lv_room (Nat.le_of_ble_eq_true rfl)) dL_release_4 ⟨Nat.le_of_ble_eq_true rfl, Nat.le_of_ble_eq_true rfl⟩) hS (fun _ h => Or.inl h) hown htab rfl (List.forall_mem_cons.mpr ⟨⟨by decide, "java/util/NoSuchElementException", (hts (.classLink RL 21 "java/util/NoSuchElementException") (List.mem_of_getElem? (i := 1) (by decide +kernel))), hzN ("java/lang/IllegalStateException", "java/util/NoSuchElementException") (by decide)⟩, (List.forall_mem_nil _)⟩) (by decide) (by decide) (hts (.classLink RL 15 "java/lang/IllegalStateException") (List.mem_of_getElem? (i := 2) (by decide +kernel))) (q_qw hC (by decide +kernel)) (fun H1 locs q9 hz hk hS => ?_)
  refine lv_astore_n (lv' := [(3, .ref (q9)), (0, .ref (ad 0 0)), (1, .int (nI f)), (2, .ref (zo))]) hx hb dL_release_15 rfl hl (by decide) rfl (fun ls hl => ?_)
  refine lv_iconst (v := nI 2) hx hb dL_release_16 (by decide) ?_
  exact W.iret hx hb hr (fun t ht _ => ⟨rfl, by rw [ht]; exact ⟨hW.same hk, hat.kept (hk zo hat.lt)⟩, hS.F ht⟩) hS.2.2 dL_release_17
set_option maxHeartbeats 4000000 in
set_option maxRecDepth 100000 in
theorem kx_release3 (l : Launch) (hst : l.stackTraces = false) (G : QG) (es : Nat) (A : Nat → Prop) (σ ad : QSt) (hF : qWF σ) (f : Nat) (hf : f < σ 0 3) (h1 : σ 162 f = 0) (h2 : σ 131 (σ 160 f) ≠ 113) (h3 : σ 134 (σ 160 f) = f + 1) (zo : Nat) (zf : Nat → Int64) (hzo : ¬ A zo) : Met l yL_release wsL_release ({ frames := 7, cells := 1, slots := 6, locals := 107 } : Room) (qLg G es A σ ad zo (.inl (G.2 2, 1, .inr (.inl zf))) [.ref (ad 0 0), .int (nI f), .ref (zo)]) (qWV (some (.int (nI 3))) (fun H => qLW G es A σ ad H ∧ va_at G.1 vwCl (zo, .inl (G.2 2, 1, .inr (.inl zf))) H) (fun q => A q ∨ q = zo)) 1 6 (fun q => A q ∨ q = zo) := by
  refine q_ofWH (cc := cL_release) (maxL := 4) (ret := (some .int)) (hh := [(0, 9, 12, 21), (0, 9, 15, 15), (0, 9, 18, 92)]) (by decide) rfl ?_
  intro p e s m args below meth c s₁ B hml htab hv
  obtain ⟨rfl, hC, hW, hZ, hA, hzT, hzN, hat⟩ := hv
  have hx := B.exec
  have hb := B.bytes
  have hr := B.returns
  have hts := atoms_spec (ws := wsL_release) B.pre
  have hown : s.vm.findClass RL = some m.cls := findClass_of_methodNamed B.named
  have hlocks := B.notSynchronized
  have hS : va_S (fun q => A q ∨ q = zo) s.heap s.heap [] := va_S.rf
  have hl := lv_entry ([.ref (ad 0 0), .int (nI f), .ref (zo)]) (n := 4) (Nat.le_of_ble_eq_true rfl)
  rw [lg_entry_eq]
  generalize (lg_sl ([.ref (ad 0 0), .int (nI f), .ref (zo)]) ++ List.replicate (4 - (lg_sl ([.ref (ad 0 0), .int (nI f), .ref (zo)])).length) Slot.unset).toArray = ls at hl ⊢
  have hl : lv_has ls 4 [(0, .ref (ad 0 0)), (1, .int (nI f)), (2, .ref (zo))] := hl
  refine lv_aload_n hx hb dL_release_0 rfl (lv_at hl 2 rfl) ?_
  refine lv_iconst (v := nI 0) hx hb dL_release_1 (by decide) ?_
  refine lv_aload_n hx hb dL_release_2 rfl (lv_at hl 0 rfl) ?_
  refine lv_iload_n hx hb dL_release_3 rfl (lv_at hl 1 rfl) ?_
  refine q_xcatch (D := (fun q => A q ∨ q = zo)) (a := [(0, 9, 12, 21), (0, 9, 15, 15)]) (h := (0, 9, 18, 92)) (b := []) (vx_runV (As := [.int (nI f)]) (rest := [.int (nI 0), .ref (zo)]) ⟨hx, hb, hml, hown, hts⟩ (x_release3 l hst G es A σ ad hF f hf h1 h2 h3) (cwV 1 hts gL_release_X7_release rfl rfl rfl (by decide +kernel) ⟨Nat.le_of_ble_eq_true rfl, Nat.le_of_ble_eq_true rfl⟩) ⟨qX.blind, qrecv hC (hW.to qLV0) rfl, qX.pre hC hW hZ hzT⟩ rfl rfl hl.1 rfl (lv_room (Nat.le_of_ble_eq_true rfl)) dL_release_4 ⟨Nat.le_of_ble_eq_true rfl, Nat.le_of_ble_eq_true rfl⟩) hS (fun _ h => Or.inl h) hown htab rfl (List.forall_mem_cons.mpr ⟨⟨by decide, "java/util/NoSuchElementException", (hts (.classLink RL 21 "java/util/NoSuchElementException") (List.mem_of_getElem? (i := 1) (by decide +kernel))), hzN ("java/lang/UnsupportedOperationException", "java/util/NoSuchElementException") (by decide)⟩, (List.forall_mem_cons.mpr ⟨⟨by decide, "java/lang/IllegalStateException", (hts (.classLink RL 15 "java/lang/IllegalStateException") (List.mem_of_getElem? (i := 2) (by decide +kernel))), hzN ("java/lang/UnsupportedOperationException", "java/lang/IllegalStateException") (by decide)⟩, (List.forall_mem_nil _)⟩)⟩) (by decide) (by decide) (hts (.classLink RL 92 "java/lang/UnsupportedOperationException") (List.mem_of_getElem? (i := 3) (by decide +kernel))) (q_qw hC (by decide +kernel)) (fun H1 locs q9 hz hk hS => ?_)
  refine lv_astore_n (lv' := [(3, .ref (q9)), (0, .ref (ad 0 0)), (1, .int (nI f)), (2, .ref (zo))]) hx hb dL_release_18 rfl hl (by decide) rfl (fun ls hl => ?_)
  refine lv_iconst (v := nI 3) hx hb dL_release_19 (by decide) ?_
  exact W.iret hx hb hr (fun t ht _ => ⟨rfl, by rw [ht]; exact ⟨hW.same hk, hat.kept (hk zo hat.lt)⟩, hS.F ht⟩) hS.2.2 dL_release_20
set_option maxHeartbeats 4000000 in
set_option maxRecDepth 100000 in
theorem kx_isGuarded1 (l : Launch) (hst : l.stackTraces = false) (G : QG) (es : Nat) (A : Nat → Prop) (σ ad : QSt) (hF : qWF σ) (x : Int32) (hx0 : ¬ rIn x (σ 0 0)) (zo : Nat) (zf : Nat → Int64) (hzo : ¬ A zo) : Met l yL_isGuarded wsL_isGuarded ({ frames := 8, cells := 1, slots := 6, locals := 124 } : Room) (qLg G es A σ ad zo (.inl (G.2 2, 1, .inr (.inl zf))) [.ref (ad 0 0), .int (x), .ref (zo)]) (qWV (some (.int (nI 1))) (fun H => qLW G es A σ ad H ∧ va_at G.1 vwCl (zo, .inl (G.2 2, 1, .inr (.inl zf))) H) (fun q => A q ∨ q = zo)) 1 6 (fun q => A q ∨ q = zo) := by
  refine q_ofWH (cc := cL_isGuarded) (maxL := 4) (ret := (some .int)) (hh := [(0, 16, 19, 21)]) (by decide) rfl ?_
  intro p e s m args below meth c s₁ B hml htab hv
  obtain ⟨rfl, hC, hW, hZ, hA, hzT, hzN, hat⟩ := hv
  have hx := B.exec
  have hb := B.bytes
  have hr := B.returns
  have hts := atoms_spec (ws := wsL_isGuarded) B.pre
  have hown : s.vm.findClass RL = some m.cls := findClass_of_methodNamed B.named
  have hlocks := B.notSynchronized
  have hS : va_S (fun q => A q ∨ q = zo) s.heap s.heap [] := va_S.rf
  have hl := lv_entry ([.ref (ad 0 0), .int (x), .ref (zo)]) (n := 4) (Nat.le_of_ble_eq_true rfl)
  rw [lg_entry_eq]
  generalize (lg_sl ([.ref (ad 0 0), .int (x), .ref (zo)]) ++ List.replicate (4 - (lg_sl ([.ref (ad 0 0), .int (x), .ref (zo)])).length) Slot.unset).toArray = ls at hl ⊢
  have hl : lv_has ls 4 [(0, .ref (ad 0 0)), (1, .int (x)), (2, .ref (zo))] := hl
  refine lv_aload_n hx hb dL_isGuarded_0 rfl (lv_at hl 2 rfl) ?_
  refine lv_iconst (v := nI 0) hx hb dL_isGuarded_1 (by decide) ?_
  refine lv_aload_n hx hb dL_isGuarded_2 rfl (lv_at hl 0 rfl) ?_
  refine lv_iload_n hx hb dL_isGuarded_3 rfl (lv_at hl 1 rfl) ?_
  refine q_xcatch (D := (fun q => A q ∨ q = zo)) (a := []) (h := (0, 16, 19, 21)) (b := []) (vx_runV (As := [.int (x)]) (rest := [.int (nI 0), .ref (zo)]) ⟨hx, hb, hml, hown, hts⟩ (x_isGuarded1 l hst G es A σ ad hF x hx0) (cwV 1 hts gL_isGuarded_X7_isGuarded rfl rfl rfl (by decide +kernel) ⟨Nat.le_of_ble_eq_true rfl, Nat.le_of_ble_eq_true rfl⟩) ⟨qX.blind, qrecv hC (hW.to qLV0) rfl, qX.pre hC hW hZ hzT⟩ rfl rfl hl.1 rfl (lv_room (Nat.le_of_ble_eq_true rfl)) dL_isGuarded_4 ⟨Nat.le_of_ble_eq_true rfl, Nat.le_of_ble_eq_true rfl⟩) hS (fun _ h => Or.inl h) hown htab rfl (List.forall_mem_nil _) (by decide) (by decide) (hts (.classLink RL 21 "java/util/NoSuchElementException") (List.mem_of_getElem? (i := 1) (by decide +kernel))) (q_qw hC (by decide +kernel)) (fun H1 locs q9 hz hk hS => ?_)
  refine lv_astore_n (lv' := [(3, .ref (q9)), (0, .ref (ad 0 0)), (1, .int (x)), (2, .ref (zo))]) hx hb dL_isGuarded_19 rfl hl (by decide) rfl (fun ls hl => ?_)
  refine lv_iconst (v := nI 1) hx hb dL_isGuarded_20 (by decide) ?_
  exact W.iret hx hb hr (fun t ht _ => ⟨rfl, by rw [ht]; exact ⟨hW.same hk, hat.kept (hk zo hat.lt)⟩, hS.F ht⟩) hS.2.2 dL_isGuarded_21
set_option maxHeartbeats 4000000 in
set_option maxRecDepth 100000 in
theorem kx_pass1 (l : Launch) (hst : l.stackTraces = false) (G : QG) (es : Nat) (A : Nat → Prop) (σ ad : QSt) (hF : qWF σ) (x : Int32) (hbad : ¬ (nI 1 ≤ x ∧ x ≤ nI 50)) (zo : Nat) (zf : Nat → Int64) (hzo : ¬ A zo) : Met l yL_pass wsL_pass ({ frames := 7, cells := 1, slots := 6, locals := 105 } : Room) (qLg G es A σ ad zo (.inl (G.2 2, 1, .inr (.inl zf))) [.ref (ad 0 0), .int (x), .ref (zo)]) (qWV (some (.int (nI 1))) (fun H => qLW G es A σ ad H ∧ va_at G.1 vwCl (zo, .inl (G.2 2, 1, .inr (.inl zf))) H) (fun q => A q ∨ q = zo)) 1 6 (fun q => A q ∨ q = zo) := by
  refine q_ofWH (cc := cL_pass) (maxL := 4) (ret := (some .int)) (hh := [(0, 9, 12, 13), (0, 9, 15, 15)]) (by decide) rfl ?_
  intro p e s m args below meth c s₁ B hml htab hv
  obtain ⟨rfl, hC, hW, hZ, hA, hzT, hzN, hat⟩ := hv
  have hx := B.exec
  have hb := B.bytes
  have hr := B.returns
  have hts := atoms_spec (ws := wsL_pass) B.pre
  have hown : s.vm.findClass RL = some m.cls := findClass_of_methodNamed B.named
  have hlocks := B.notSynchronized
  have hS : va_S (fun q => A q ∨ q = zo) s.heap s.heap [] := va_S.rf
  have hl := lv_entry ([.ref (ad 0 0), .int (x), .ref (zo)]) (n := 4) (Nat.le_of_ble_eq_true rfl)
  rw [lg_entry_eq]
  generalize (lg_sl ([.ref (ad 0 0), .int (x), .ref (zo)]) ++ List.replicate (4 - (lg_sl ([.ref (ad 0 0), .int (x), .ref (zo)])).length) Slot.unset).toArray = ls at hl ⊢
  have hl : lv_has ls 4 [(0, .ref (ad 0 0)), (1, .int (x)), (2, .ref (zo))] := hl
  refine lv_aload_n hx hb dL_pass_0 rfl (lv_at hl 2 rfl) ?_
  refine lv_iconst (v := nI 0) hx hb dL_pass_1 (by decide) ?_
  refine lv_aload_n hx hb dL_pass_2 rfl (lv_at hl 0 rfl) ?_
  refine lv_iload_n hx hb dL_pass_3 rfl (lv_at hl 1 rfl) ?_
  refine q_xcatch (D := (fun q => A q ∨ q = zo)) (a := []) (h := (0, 9, 12, 13)) (b := [(0, 9, 15, 15)]) (vx_runV (As := [.int (x)]) (rest := [.int (nI 0), .ref (zo)]) ⟨hx, hb, hml, hown, hts⟩ (x_pass1 l hst G es A σ ad hF x hbad) (cwV 1 hts gL_pass_X7_pass rfl rfl rfl (by decide +kernel) ⟨Nat.le_of_ble_eq_true rfl, Nat.le_of_ble_eq_true rfl⟩) ⟨qX.blind, qrecv hC (hW.to qLV0) rfl, qX.pre hC hW hZ hzT⟩ rfl rfl hl.1 rfl (lv_room (Nat.le_of_ble_eq_true rfl)) dL_pass_4 ⟨Nat.le_of_ble_eq_true rfl, Nat.le_of_ble_eq_true rfl⟩) hS (fun _ h => Or.inl h) hown htab rfl (List.forall_mem_nil _) (by decide) (by decide) (hts (.classLink RL 13 "java/lang/IllegalArgumentException") (List.mem_of_getElem? (i := 1) (by decide +kernel))) (q_qw hC (by decide +kernel)) (fun H1 locs q9 hz hk hS => ?_)
  refine lv_astore_n (lv' := [(3, .ref (q9)), (0, .ref (ad 0 0)), (1, .int (x)), (2, .ref (zo))]) hx hb dL_pass_12 rfl hl (by decide) rfl (fun ls hl => ?_)
  refine lv_iconst (v := nI 1) hx hb dL_pass_13 (by decide) ?_
  exact W.iret hx hb hr (fun t ht _ => ⟨rfl, by rw [ht]; exact ⟨hW.same hk, hat.kept (hk zo hat.lt)⟩, hS.F ht⟩) hS.2.2 dL_pass_14
set_option maxHeartbeats 4000000 in
set_option maxRecDepth 100000 in
theorem kx_pass2 (l : Launch) (hst : l.stackTraces = false) (G : QG) (es : Nat) (A : Nat → Prop) (σ ad : QSt) (hF : qWF σ) (n0 : Nat) (hn0 : 1 ≤ n0 ∧ n0 ≤ 50) (h5 : 5000 < σ 1 0 + n0) (zo : Nat) (zf : Nat → Int64) (hzo : ¬ A zo) : Met l yL_pass wsL_pass ({ frames := 7, cells := 1, slots := 6, locals := 105 } : Room) (qLg G es A σ ad zo (.inl (G.2 2, 1, .inr (.inl zf))) [.ref (ad 0 0), .int (nI n0), .ref (zo)]) (qWV (some (.int (nI 2))) (fun H => qLW G es A σ ad H ∧ va_at G.1 vwCl (zo, .inl (G.2 2, 1, .inr (.inl zf))) H) (fun q => A q ∨ q = zo)) 1 6 (fun q => A q ∨ q = zo) := by
  refine q_ofWH (cc := cL_pass) (maxL := 4) (ret := (some .int)) (hh := [(0, 9, 12, 13), (0, 9, 15, 15)]) (by decide) rfl ?_
  intro p e s m args below meth c s₁ B hml htab hv
  obtain ⟨rfl, hC, hW, hZ, hA, hzT, hzN, hat⟩ := hv
  have hx := B.exec
  have hb := B.bytes
  have hr := B.returns
  have hts := atoms_spec (ws := wsL_pass) B.pre
  have hown : s.vm.findClass RL = some m.cls := findClass_of_methodNamed B.named
  have hlocks := B.notSynchronized
  have hS : va_S (fun q => A q ∨ q = zo) s.heap s.heap [] := va_S.rf
  have hl := lv_entry ([.ref (ad 0 0), .int (nI n0), .ref (zo)]) (n := 4) (Nat.le_of_ble_eq_true rfl)
  rw [lg_entry_eq]
  generalize (lg_sl ([.ref (ad 0 0), .int (nI n0), .ref (zo)]) ++ List.replicate (4 - (lg_sl ([.ref (ad 0 0), .int (nI n0), .ref (zo)])).length) Slot.unset).toArray = ls at hl ⊢
  have hl : lv_has ls 4 [(0, .ref (ad 0 0)), (1, .int (nI n0)), (2, .ref (zo))] := hl
  refine lv_aload_n hx hb dL_pass_0 rfl (lv_at hl 2 rfl) ?_
  refine lv_iconst (v := nI 0) hx hb dL_pass_1 (by decide) ?_
  refine lv_aload_n hx hb dL_pass_2 rfl (lv_at hl 0 rfl) ?_
  refine lv_iload_n hx hb dL_pass_3 rfl (lv_at hl 1 rfl) ?_
  refine q_xcatch (D := (fun q => A q ∨ q = zo)) (a := [(0, 9, 12, 13)]) (h := (0, 9, 15, 15)) (b := []) (vx_runV (As := [.int (nI n0)]) (rest := [.int (nI 0), .ref (zo)]) ⟨hx, hb, hml, hown, hts⟩ (x_pass2 l hst G es A σ ad hF n0 hn0 h5) (cwV 1 hts gL_pass_X7_pass rfl rfl rfl (by decide +kernel) ⟨Nat.le_of_ble_eq_true rfl, Nat.le_of_ble_eq_true rfl⟩) ⟨qX.blind, qrecv hC (hW.to qLV0) rfl, qX.pre hC hW hZ hzT⟩ rfl rfl hl.1 rfl (lv_room (Nat.le_of_ble_eq_true rfl)) dL_pass_4 ⟨Nat.le_of_ble_eq_true rfl, Nat.le_of_ble_eq_true rfl⟩) hS (fun _ h => Or.inl h) hown htab rfl (List.forall_mem_cons.mpr ⟨⟨by decide, "java/lang/IllegalArgumentException", (hts (.classLink RL 13 "java/lang/IllegalArgumentException") (List.mem_of_getElem? (i := 1) (by decide +kernel))), hzN ("java/lang/IllegalStateException", "java/lang/IllegalArgumentException") (by decide)⟩, (List.forall_mem_nil _)⟩) (by decide) (by decide) (hts (.classLink RL 15 "java/lang/IllegalStateException") (List.mem_of_getElem? (i := 2) (by decide +kernel))) (q_qw hC (by decide +kernel)) (fun H1 locs q9 hz hk hS => ?_)
  refine lv_astore_n (lv' := [(3, .ref (q9)), (0, .ref (ad 0 0)), (1, .int (nI n0)), (2, .ref (zo))]) hx hb dL_pass_15 rfl hl (by decide) rfl (fun ls hl => ?_)
  refine lv_iconst (v := nI 2) hx hb dL_pass_16 (by decide) ?_
  exact W.iret hx hb hr (fun t ht _ => ⟨rfl, by rw [ht]; exact ⟨hW.same hk, hat.kept (hk zo hat.lt)⟩, hS.F ht⟩) hS.2.2 dL_pass_17
set_option maxHeartbeats 4000000 in
set_option maxRecDepth 100000 in
theorem kx_droppedShare1 (l : Launch) (hst : l.stackTraces = false) (G : QG) (es : Nat) (A : Nat → Prop) (σ ad : QSt) (hF : qWF σ) (h0 : σ 0 0 = 0) (zo : Nat) (zf : Nat → UInt64) (hzo : ¬ A zo) : Met l yL_droppedShare wsL_droppedShare ({ frames := 7, cells := 1, slots := 6, locals := 105 } : Room) (qLg G es A σ ad zo (.inl (G.2 5, 1, .inr (.inr (.inr (.inl zf))))) [.ref (ad 0 0), .ref (zo)]) (qWV (some (.int (nI 1))) (fun H => qLW G es A σ ad H ∧ va_at G.1 vwCl (zo, .inl (G.2 5, 1, .inr (.inr (.inr (.inl zf))))) H) (fun q => A q ∨ q = zo)) 1 6 (fun q => A q ∨ q = zo) := by
  refine q_ofWH (cc := cL_droppedShare) (maxL := 3) (ret := (some .int)) (hh := [(0, 8, 11, 105)]) (by decide) rfl ?_
  intro p e s m args below meth c s₁ B hml htab hv
  obtain ⟨rfl, hC, hW, hZ, hA, hzT, hzN, hat⟩ := hv
  have hx := B.exec
  have hb := B.bytes
  have hr := B.returns
  have hts := atoms_spec (ws := wsL_droppedShare) B.pre
  have hown : s.vm.findClass RL = some m.cls := findClass_of_methodNamed B.named
  have hlocks := B.notSynchronized
  have hS : va_S (fun q => A q ∨ q = zo) s.heap s.heap [] := va_S.rf
  have hl := lv_entry ([.ref (ad 0 0), .ref (zo)]) (n := 3) (Nat.le_of_ble_eq_true rfl)
  rw [lg_entry_eq]
  generalize (lg_sl ([.ref (ad 0 0), .ref (zo)]) ++ List.replicate (3 - (lg_sl ([.ref (ad 0 0), .ref (zo)])).length) Slot.unset).toArray = ls at hl ⊢
  have hl : lv_has ls 3 [(0, .ref (ad 0 0)), (1, .ref (zo))] := hl
  refine lv_aload_n hx hb dL_droppedShare_0 rfl (lv_at hl 1 rfl) ?_
  refine lv_iconst (v := nI 0) hx hb dL_droppedShare_1 (by decide) ?_
  refine lv_aload_n hx hb dL_droppedShare_2 rfl (lv_at hl 0 rfl) ?_
  refine q_xcatch (D := (fun q => A q ∨ q = zo)) (a := []) (h := (0, 8, 11, 105)) (b := []) (vx_runV (As := []) (rest := [.int (nI 0), .ref (zo)]) ⟨hx, hb, hml, hown, hts⟩ (x_droppedShare1 l hst G es A σ ad hF h0) (cwV 0 hts gL_droppedShare_X7_droppedShare rfl rfl rfl (by decide +kernel) ⟨Nat.le_of_ble_eq_true rfl, Nat.le_of_ble_eq_true rfl⟩) ⟨qX.blind, qrecv hC (hW.to qLV0) rfl, qX.pre hC hW hZ hzT⟩ rfl rfl hl.1 rfl (lv_room (Nat.le_of_ble_eq_true rfl)) dL_droppedShare_3 ⟨Nat.le_of_ble_eq_true rfl, Nat.le_of_ble_eq_true rfl⟩) hS (fun _ h => Or.inl h) hown htab rfl (List.forall_mem_nil _) (by decide) (by decide) (hts (.classLink RL 105 "java/lang/ArithmeticException") (List.mem_of_getElem? (i := 1) (by decide +kernel))) (q_qw hC (by decide +kernel)) (fun H1 locs q9 hz hk hS => ?_)
  refine lv_astore_n (lv' := [(2, .ref (q9)), (0, .ref (ad 0 0)), (1, .ref (zo))]) hx hb dL_droppedShare_11 rfl hl (by decide) rfl (fun ls hl => ?_)
  refine lv_iconst (v := nI 1) hx hb dL_droppedShare_12 (by decide) ?_
  exact W.iret hx hb hr (fun t ht _ => ⟨rfl, by rw [ht]; exact ⟨hW.same hk, hat.kept (hk zo hat.lt)⟩, hS.F ht⟩) hS.2.2 dL_droppedShare_13
set_option maxHeartbeats 4000000 in
set_option maxRecDepth 100000 in
theorem kx_meanRank1 (l : Launch) (hst : l.stackTraces = false) (G : QG) (es : Nat) (A : Nat → Prop) (σ ad : QSt) (hF : qWF σ) (h0 : qsum (fun l => qB (σ 69 l = 107)) (σ 0 0) = 0) (zo : Nat) (zf : Nat → UInt64) (hzo : ¬ A zo) : Met l yL_meanRank wsL_meanRank ({ frames := 7, cells := 1, slots := 6, locals := 106 } : Room) (qLg G es A σ ad zo (.inl (G.2 5, 1, .inr (.inr (.inr (.inl zf))))) [.ref (ad 0 0), .ref (zo)]) (qWV (some (.int (nI 1))) (fun H => qLW G es A σ ad H ∧ va_at G.1 vwCl (zo, .inl (G.2 5, 1, .inr (.inr (.inr (.inl zf))))) H) (fun q => A q ∨ q = zo)) 1 6 (fun q => A q ∨ q = zo) := by
  refine q_ofWH (cc := cL_meanRank) (maxL := 3) (ret := (some .int)) (hh := [(0, 7, 10, 105)]) (by decide) rfl ?_
  intro p e s m args below meth c s₁ B hml htab hv
  obtain ⟨rfl, hC, hW, hZ, hA, hzT, hzN, hat⟩ := hv
  have hx := B.exec
  have hb := B.bytes
  have hr := B.returns
  have hts := atoms_spec (ws := wsL_meanRank) B.pre
  have hown : s.vm.findClass RL = some m.cls := findClass_of_methodNamed B.named
  have hlocks := B.notSynchronized
  have hS : va_S (fun q => A q ∨ q = zo) s.heap s.heap [] := va_S.rf
  have hl := lv_entry ([.ref (ad 0 0), .ref (zo)]) (n := 3) (Nat.le_of_ble_eq_true rfl)
  rw [lg_entry_eq]
  generalize (lg_sl ([.ref (ad 0 0), .ref (zo)]) ++ List.replicate (3 - (lg_sl ([.ref (ad 0 0), .ref (zo)])).length) Slot.unset).toArray = ls at hl ⊢
  have hl : lv_has ls 3 [(0, .ref (ad 0 0)), (1, .ref (zo))] := hl
  refine lv_aload_n hx hb dL_meanRank_0 rfl (lv_at hl 1 rfl) ?_
  refine lv_iconst (v := nI 0) hx hb dL_meanRank_1 (by decide) ?_
  refine lv_aload_n hx hb dL_meanRank_2 rfl (lv_at hl 0 rfl) ?_
  refine q_xcatch (D := (fun q => A q ∨ q = zo)) (a := []) (h := (0, 7, 10, 105)) (b := []) (vx_runV (As := []) (rest := [.int (nI 0), .ref (zo)]) ⟨hx, hb, hml, hown, hts⟩ (x_meanRank1 l hst G es A σ ad hF h0) (cwV 0 hts gL_meanRank_X7_meanRank rfl rfl rfl (by decide +kernel) ⟨Nat.le_of_ble_eq_true rfl, Nat.le_of_ble_eq_true rfl⟩) ⟨qX.blind, qrecv hC (hW.to qLV0) rfl, qX.pre hC hW hZ hzT⟩ rfl rfl hl.1 rfl (lv_room (Nat.le_of_ble_eq_true rfl)) dL_meanRank_3 ⟨Nat.le_of_ble_eq_true rfl, Nat.le_of_ble_eq_true rfl⟩) hS (fun _ h => Or.inl h) hown htab rfl (List.forall_mem_nil _) (by decide) (by decide) (hts (.classLink RL 105 "java/lang/ArithmeticException") (List.mem_of_getElem? (i := 1) (by decide +kernel))) (q_qw hC (by decide +kernel)) (fun H1 locs q9 hz hk hS => ?_)
  refine lv_astore_n (lv' := [(2, .ref (q9)), (0, .ref (ad 0 0)), (1, .ref (zo))]) hx hb dL_meanRank_10 rfl hl (by decide) rfl (fun ls hl => ?_)
  refine lv_iconst (v := nI 1) hx hb dL_meanRank_11 (by decide) ?_
  exact W.iret hx hb hr (fun t ht _ => ⟨rfl, by rw [ht]; exact ⟨hW.same hk, hat.kept (hk zo hat.lt)⟩, hS.F ht⟩) hS.2.2 dL_meanRank_12
