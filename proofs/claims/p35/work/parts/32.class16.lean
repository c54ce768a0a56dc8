theorem q_nchar : ∀ x, x < 128 → narrow .char (.int (nI x)) = .int (nI x) := by decide +kernel
set_option maxHeartbeats 4000000 in
set_option maxRecDepth 100000 in
theorem m_lineNumbered (l : Launch) (G : QG) (es : Nat) (A : Nat → Prop) (σ ad : QSt) (hF : qWF σ) (i : Nat) (hi : i < σ 0 0) : Met l yX7_lineNumbered wsX7_lineNumbered ({ frames := 3, cells := 0, slots := 0, locals := 64 } : Room) (qR G es A σ ad [.ref (ad 0 0), .int (nI i)]) (qPV (some (.ref (ad 4 i)))) 0 0 (fun _ => False) := by
  refine Met.ofW (cc := cX7_lineNumbered) (maxL := 2) (ret := (some (.object "LogWeave$Line"))) (by decide) rfl ?_
  intro p e s m args below meth c s₁ B hml hv
  obtain ⟨rfl, hC, hW⟩ := hv
  have hx := B.exec
  have hb := B.bytes
  have hr := B.returns
  have hts := atoms_spec (ws := wsX7_lineNumbered) B.pre
  have hown : s.vm.findClass RX7 = some m.cls := findClass_of_methodNamed B.named
  have hlocks := B.notSynchronized
  have hB := hF.1
  have hn := hF.n
  have hS : va_S (fun _ => False) s.heap s.heap [] := va_S.rf
  have hl := lv_entry ([.ref (ad 0 0), .int (nI i)]) (n := 2) (Nat.le_of_ble_eq_true rfl)
  rw [lg_entry_eq]
  generalize (lg_sl ([.ref (ad 0 0), .int (nI i)]) ++ List.replicate (2 - (lg_sl ([.ref (ad 0 0), .int (nI i)])).length) Slot.unset).toArray = ls at hl ⊢
  have hl : lv_has ls 2 [(0, .ref (ad 0 0)), (1, .int (nI i))] := hl
  have iRX7 : ∀ w ∈ wsX70, w ∈ wsX7_lineNumbered := by decide +kernel
  refine lv_iload_n hx hb dX7_lineNumbered_0 rfl (lv_at hl 1 rfl) ?_
  refine q_lt0 (tgt := 15) hx hb (by omega) dX7_lineNumbered_1 (by decide) (fun g1 => g1.elim) (fun g1 => ?_)
  refine lv_iload_n hx hb dX7_lineNumbered_4 rfl (lv_at hl 1 rfl) ?_
  refine lv_aload_n hx hb dX7_lineNumbered_5 rfl (lv_at hl 0 rfl) ?_
  refine q_get (C := RX7) (T := TX7) (N := 7) hx hb hts iRX7 hown hC.1 (hW.to qLV0) rfl 0 (by decide) (hts (.fieldLink RX7 10 "LogWeave" "lineList" "Ljava/util/ArrayList;") (List.mem_of_getElem? (i := 3) (by decide +kernel))) rfl (v := .ref (ad 1 0)) rfl dX7_lineNumbered_6 ?_
  refine q_v (va_runV (As := []) (rest := [.int (nI i)]) ⟨hx, hb, hml, hown, hts⟩ (m_size l G (ad 1 0) _ _ (nI (σ 0 0))) (cwV 0 hts gX7_lineNumbered_Jx4a65c_size_8abf5 rfl rfl rfl (by decide +kernel) ⟨Nat.le_of_ble_eq_true rfl, Nat.le_of_ble_eq_true rfl⟩) ⟨qO.blind, qrecv hC (hW.to (qLV1 (j := 0) (by decide))) rfl, qO.pre hC (hW.lob (by decide))⟩ rfl rfl hl.1 rfl (lv_room (Nat.le_of_ble_eq_true rfl)) dX7_lineNumbered_9 ⟨Nat.le_of_ble_eq_true rfl, Nat.le_of_ble_eq_true rfl⟩) hS (fun _ h => h.elim) (fun locs hS => ?_)
  refine q_lt (tgt := 26) hx hb (by omega) (q31 (hB _ _)) dX7_lineNumbered_12 (by decide) (fun g2 => ?_) (fun g2 => (by omega))
  refine lv_aload_n hx hb dX7_lineNumbered_26 rfl (lv_at hl 0 rfl) ?_
  refine q_get (C := RX7) (T := TX7) (N := 7) hx hb hts iRX7 hown hC.1 (hW.to qLV0) rfl 0 (by decide) (hts (.fieldLink RX7 10 "LogWeave" "lineList" "Ljava/util/ArrayList;") (List.mem_of_getElem? (i := 3) (by decide +kernel))) rfl (v := .ref (ad 1 0)) rfl dX7_lineNumbered_27 ?_
  refine lv_iload_n hx hb dX7_lineNumbered_30 rfl (lv_at hl 1 rfl) ?_
  refine q_v (va_runV (As := [.int (nI i)]) (rest := []) ⟨hx, hb, hml, hown, hts⟩ (m_get l G (ad 1 0) (ad 2 0) (σ 32 0) (σ 0 0) (fun i => if i < σ 0 0 then some (ad (4 + 2 * 0) i) else none) (.int (nI (σ 16 0))) i (ad 4 i) hi (hF.c 0) (hB _ _) (if_pos hi)) (cwV 1 hts gX7_lineNumbered_Jx4a65c_get_915e3 rfl rfl rfl (by decide +kernel) ⟨Nat.le_of_ble_eq_true rfl, Nat.le_of_ble_eq_true rfl⟩) ⟨qO.blind, qrecv hC (hW.to (qLV1 (j := 0) (by decide))) rfl, qO.pre hC (hW.list hF (J := 0) (by decide) hi)⟩ rfl rfl hl.1 rfl (lv_room (Nat.le_of_ble_eq_true rfl)) dX7_lineNumbered_31 ⟨Nat.le_of_ble_eq_true rfl, Nat.le_of_ble_eq_true rfl⟩) hS (fun _ h => h.elim) (fun locs hS => ?_)
  refine va_castS hx hb hown (hts (.classLink RX7 74 "LogWeave$Line") (List.mem_of_getElem? (i := 4) (by decide +kernel))) (hC.1.1 6 _ rfl).2 (qrecv hC (hW.to (qLV4 hi)) rfl) dX7_lineNumbered_34 ?_
  exact W.aret hx hb hr (Or.inl ⟨_, rfl⟩) (Or.inr ⟨_, rfl⟩) (fun t ht _ => ⟨rfl, ht⟩) hS.2.2 dX7_lineNumbered_37
set_option maxHeartbeats 4000000 in
set_option maxRecDepth 100000 in
theorem m_firingNumbered (l : Launch) (G : QG) (es : Nat) (A : Nat → Prop) (σ ad : QSt) (hF : qWF σ) (i : Nat) (hi : i < σ 0 3) : Met l yX7_firingNumbered wsX7_firingNumbered ({ frames := 3, cells := 0, slots := 0, locals := 64 } : Room) (qR G es A σ ad [.ref (ad 0 0), .int (nI i)]) (qPV (some (.ref (ad 10 i)))) 0 0 (fun _ => False) := by
  refine Met.ofW (cc := cX7_firingNumbered) (maxL := 2) (ret := (some (.object "LogWeave$Firing"))) (by decide) rfl ?_
  intro p e s m args below meth c s₁ B hml hv
  obtain ⟨rfl, hC, hW⟩ := hv
  have hx := B.exec
  have hb := B.bytes
  have hr := B.returns
  have hts := atoms_spec (ws := wsX7_firingNumbered) B.pre
  have hown : s.vm.findClass RX7 = some m.cls := findClass_of_methodNamed B.named
  have hlocks := B.notSynchronized
  have hB := hF.1
  have hn := hF.n
  have hS : va_S (fun _ => False) s.heap s.heap [] := va_S.rf
  have hl := lv_entry ([.ref (ad 0 0), .int (nI i)]) (n := 2) (Nat.le_of_ble_eq_true rfl)
  rw [lg_entry_eq]
  generalize (lg_sl ([.ref (ad 0 0), .int (nI i)]) ++ List.replicate (2 - (lg_sl ([.ref (ad 0 0), .int (nI i)])).length) Slot.unset).toArray = ls at hl ⊢
  have hl : lv_has ls 2 [(0, .ref (ad 0 0)), (1, .int (nI i))] := hl
  have iRX7 : ∀ w ∈ wsX70, w ∈ wsX7_firingNumbered := by decide +kernel
  refine lv_iload_n hx hb dX7_firingNumbered_0 rfl (lv_at hl 1 rfl) ?_
  refine q_lt0 (tgt := 15) hx hb (by omega) dX7_firingNumbered_1 (by decide) (fun g1 => g1.elim) (fun g1 => ?_)
  refine lv_iload_n hx hb dX7_firingNumbered_4 rfl (lv_at hl 1 rfl) ?_
  refine lv_aload_n hx hb dX7_firingNumbered_5 rfl (lv_at hl 0 rfl) ?_
  refine q_get (C := RX7) (T := TX7) (N := 7) hx hb hts iRX7 hown hC.1 (hW.to qLV0) rfl 3 (by decide) (hts (.fieldLink RX7 22 "LogWeave" "firingList" "Ljava/util/ArrayList;") (List.mem_of_getElem? (i := 3) (by decide +kernel))) rfl (v := .ref (ad 1 3)) rfl dX7_firingNumbered_6 ?_
  refine q_v (va_runV (As := []) (rest := [.int (nI i)]) ⟨hx, hb, hml, hown, hts⟩ (m_size l G (ad 1 3) _ _ (nI (σ 0 3))) (cwV 0 hts gX7_firingNumbered_Jx4a65c_size_8abf5 rfl rfl rfl (by decide +kernel) ⟨Nat.le_of_ble_eq_true rfl, Nat.le_of_ble_eq_true rfl⟩) ⟨qO.blind, qrecv hC (hW.to (qLV1 (j := 3) (by decide))) rfl, qO.pre hC (hW.lob (by decide))⟩ rfl rfl hl.1 rfl (lv_room (Nat.le_of_ble_eq_true rfl)) dX7_firingNumbered_9 ⟨Nat.le_of_ble_eq_true rfl, Nat.le_of_ble_eq_true rfl⟩) hS (fun _ h => h.elim) (fun locs hS => ?_)
  refine q_lt (tgt := 26) hx hb (by omega) (q31 (hB _ _)) dX7_firingNumbered_12 (by decide) (fun g2 => ?_) (fun g2 => (by omega))
  refine lv_aload_n hx hb dX7_firingNumbered_26 rfl (lv_at hl 0 rfl) ?_
  refine q_get (C := RX7) (T := TX7) (N := 7) hx hb hts iRX7 hown hC.1 (hW.to qLV0) rfl 3 (by decide) (hts (.fieldLink RX7 22 "LogWeave" "firingList" "Ljava/util/ArrayList;") (List.mem_of_getElem? (i := 3) (by decide +kernel))) rfl (v := .ref (ad 1 3)) rfl dX7_firingNumbered_27 ?_
  refine lv_iload_n hx hb dX7_firingNumbered_30 rfl (lv_at hl 1 rfl) ?_
  refine q_v (va_runV (As := [.int (nI i)]) (rest := []) ⟨hx, hb, hml, hown, hts⟩ (m_get l G (ad 1 3) (ad 2 3) (σ 32 3) (σ 0 3) (fun i => if i < σ 0 3 then some (ad (4 + 2 * 3) i) else none) (.int (nI (σ 16 3))) i (ad 10 i) hi (hF.c 3) (hB _ _) (if_pos hi)) (cwV 1 hts gX7_firingNumbered_Jx4a65c_get_915e3 rfl rfl rfl (by decide +kernel) ⟨Nat.le_of_ble_eq_true rfl, Nat.le_of_ble_eq_true rfl⟩) ⟨qO.blind, qrecv hC (hW.to (qLV1 (j := 3) (by decide))) rfl, qO.pre hC (hW.list hF (J := 3) (by decide) hi)⟩ rfl rfl hl.1 rfl (lv_room (Nat.le_of_ble_eq_true rfl)) dX7_firingNumbered_31 ⟨Nat.le_of_ble_eq_true rfl, Nat.le_of_ble_eq_true rfl⟩) hS (fun _ h => h.elim) (fun locs hS => ?_)
  refine va_castS hx hb hown (hts (.classLink RX7 228 "LogWeave$Firing") (List.mem_of_getElem? (i := 4) (by decide +kernel))) (hC.1.1 5 _ rfl).2 (qrecv hC (hW.to (qLV10 hi)) rfl) dX7_firingNumbered_34 ?_
  exact W.aret hx hb hr (Or.inl ⟨_, rfl⟩) (Or.inr ⟨_, rfl⟩) (fun t ht _ => ⟨rfl, ht⟩) hS.2.2 dX7_firingNumbered_37
set_option maxHeartbeats 4000000 in
set_option maxRecDepth 100000 in
theorem m_alertNumbered (l : Launch) (G : QG) (es : Nat) (A : Nat → Prop) (σ ad : QSt) (hF : qWF σ) (i : Nat) (hi : i < σ 0 2) : Met l yX7_alertNumbered wsX7_alertNumbered ({ frames := 3, cells := 0, slots := 0, locals := 64 } : Room) (qR G es A σ ad [.ref (ad 0 0), .int (nI i)]) (qPV (some (.ref (ad 8 i)))) 0 0 (fun _ => False) := by
  refine Met.ofW (cc := cX7_alertNumbered) (maxL := 2) (ret := (some (.object "LogWeave$Alert"))) (by decide) rfl ?_
  intro p e s m args below meth c s₁ B hml hv
  obtain ⟨rfl, hC, hW⟩ := hv
  have hx := B.exec
  have hb := B.bytes
  have hr := B.returns
  have hts := atoms_spec (ws := wsX7_alertNumbered) B.pre
  have hown : s.vm.findClass RX7 = some m.cls := findClass_of_methodNamed B.named
  have hlocks := B.notSynchronized
  have hB := hF.1
  have hn := hF.n
  have hS : va_S (fun _ => False) s.heap s.heap [] := va_S.rf
  have hl := lv_entry ([.ref (ad 0 0), .int (nI i)]) (n := 2) (Nat.le_of_ble_eq_true rfl)
  rw [lg_entry_eq]
  generalize (lg_sl ([.ref (ad 0 0), .int (nI i)]) ++ List.replicate (2 - (lg_sl ([.ref (ad 0 0), .int (nI i)])).length) Slot.unset).toArray = ls at hl ⊢
  have hl : lv_has ls 2 [(0, .ref (ad 0 0)), (1, .int (nI i))] := hl
  have iRX7 : ∀ w ∈ wsX70, w ∈ wsX7_alertNumbered := by decide +kernel
  refine lv_iload_n hx hb dX7_alertNumbered_0 rfl (lv_at hl 1 rfl) ?_
  refine q_lt0 (tgt := 15) hx hb (by omega) dX7_alertNumbered_1 (by decide) (fun g1 => g1.elim) (fun g1 => ?_)
  refine lv_iload_n hx hb dX7_alertNumbered_4 rfl (lv_at hl 1 rfl) ?_
  refine lv_aload_n hx hb dX7_alertNumbered_5 rfl (lv_at hl 0 rfl) ?_
  refine q_get (C := RX7) (T := TX7) (N := 7) hx hb hts iRX7 hown hC.1 (hW.to qLV0) rfl 2 (by decide) (hts (.fieldLink RX7 19 "LogWeave" "alertList" "Ljava/util/ArrayList;") (List.mem_of_getElem? (i := 3) (by decide +kernel))) rfl (v := .ref (ad 1 2)) rfl dX7_alertNumbered_6 ?_
  refine q_v (va_runV (As := []) (rest := [.int (nI i)]) ⟨hx, hb, hml, hown, hts⟩ (m_size l G (ad 1 2) _ _ (nI (σ 0 2))) (cwV 0 hts gX7_alertNumbered_Jx4a65c_size_8abf5 rfl rfl rfl (by decide +kernel) ⟨Nat.le_of_ble_eq_true rfl, Nat.le_of_ble_eq_true rfl⟩) ⟨qO.blind, qrecv hC (hW.to (qLV1 (j := 2) (by decide))) rfl, qO.pre hC (hW.lob (by decide))⟩ rfl rfl hl.1 rfl (lv_room (Nat.le_of_ble_eq_true rfl)) dX7_alertNumbered_9 ⟨Nat.le_of_ble_eq_true rfl, Nat.le_of_ble_eq_true rfl⟩) hS (fun _ h => h.elim) (fun locs hS => ?_)
  refine q_lt (tgt := 26) hx hb (by omega) (q31 (hB _ _)) dX7_alertNumbered_12 (by decide) (fun g2 => ?_) (fun g2 => (by omega))
  refine lv_aload_n hx hb dX7_alertNumbered_26 rfl (lv_at hl 0 rfl) ?_
  refine q_get (C := RX7) (T := TX7) (N := 7) hx hb hts iRX7 hown hC.1 (hW.to qLV0) rfl 2 (by decide) (hts (.fieldLink RX7 19 "LogWeave" "alertList" "Ljava/util/ArrayList;") (List.mem_of_getElem? (i := 3) (by decide +kernel))) rfl (v := .ref (ad 1 2)) rfl dX7_alertNumbered_27 ?_
  refine lv_iload_n hx hb dX7_alertNumbered_30 rfl (lv_at hl 1 rfl) ?_
  refine q_v (va_runV (As := [.int (nI i)]) (rest := []) ⟨hx, hb, hml, hown, hts⟩ (m_get l G (ad 1 2) (ad 2 2) (σ 32 2) (σ 0 2) (fun i => if i < σ 0 2 then some (ad (4 + 2 * 2) i) else none) (.int (nI (σ 16 2))) i (ad 8 i) hi (hF.c 2) (hB _ _) (if_pos hi)) (cwV 1 hts gX7_alertNumbered_Jx4a65c_get_915e3 rfl rfl rfl (by decide +kernel) ⟨Nat.le_of_ble_eq_true rfl, Nat.le_of_ble_eq_true rfl⟩) ⟨qO.blind, qrecv hC (hW.to (qLV1 (j := 2) (by decide))) rfl, qO.pre hC (hW.list hF (J := 2) (by decide) hi)⟩ rfl rfl hl.1 rfl (lv_room (Nat.le_of_ble_eq_true rfl)) dX7_alertNumbered_31 ⟨Nat.le_of_ble_eq_true rfl, Nat.le_of_ble_eq_true rfl⟩) hS (fun _ h => h.elim) (fun locs hS => ?_)
  refine va_castS hx hb hown (hts (.classLink RX7 195 "LogWeave$Alert") (List.mem_of_getElem? (i := 4) (by decide +kernel))) (hC.1.1 3 _ rfl).2 (qrecv hC (hW.to (qLV8 hi)) rfl) dX7_alertNumbered_34 ?_
  exact W.aret hx hb hr (Or.inl ⟨_, rfl⟩) (Or.inr ⟨_, rfl⟩) (fun t ht _ => ⟨rfl, ht⟩) hS.2.2 dX7_alertNumbered_37
set_option maxHeartbeats 4000000 in
set_option maxRecDepth 100000 in
theorem m_patternNumbered (l : Launch) (G : QG) (es : Nat) (A : Nat → Prop) (σ ad : QSt) (hF : qWF σ) (i : Nat) (hi : i < σ 0 1) (hm : σ 97 i = 0) : Met l yX7_patternNumbered wsX7_patternNumbered ({ frames := 3, cells := 0, slots := 0, locals := 64 } : Room) (qR G es A σ ad [.ref (ad 0 0), .int (nI i)]) (qPV (some (.ref (ad 6 i)))) 0 0 (fun _ => False) := by
  refine Met.ofW (cc := cX7_patternNumbered) (maxL := 3) (ret := (some (.object "LogWeave$Pattern"))) (by decide) rfl ?_
  intro p e s m args below meth c s₁ B hml hv
  obtain ⟨rfl, hC, hW⟩ := hv
  have hx := B.exec
  have hb := B.bytes
  have hr := B.returns
  have hts := atoms_spec (ws := wsX7_patternNumbered) B.pre
  have hown : s.vm.findClass RX7 = some m.cls := findClass_of_methodNamed B.named
  have hlocks := B.notSynchronized
  have hB := hF.1
  have hn := hF.n
  have hS : va_S (fun _ => False) s.heap s.heap [] := va_S.rf
  have hl := lv_entry ([.ref (ad 0 0), .int (nI i)]) (n := 3) (Nat.le_of_ble_eq_true rfl)
  rw [lg_entry_eq]
  generalize (lg_sl ([.ref (ad 0 0), .int (nI i)]) ++ List.replicate (3 - (lg_sl ([.ref (ad 0 0), .int (nI i)])).length) Slot.unset).toArray = ls at hl ⊢
  have hl : lv_has ls 3 [(0, .ref (ad 0 0)), (1, .int (nI i))] := hl
  have iRX7 : ∀ w ∈ wsX70, w ∈ wsX7_patternNumbered := by decide +kernel
  have iRX4 : ∀ w ∈ wsX40, w ∈ wsX7_patternNumbered := by decide +kernel
  refine lv_iload_n hx hb dX7_patternNumbered_0 rfl (lv_at hl 1 rfl) ?_
  refine q_lt0 (tgt := 15) hx hb (by omega) dX7_patternNumbered_1 (by decide) (fun g1 => g1.elim) (fun g1 => ?_)
  refine lv_iload_n hx hb dX7_patternNumbered_4 rfl (lv_at hl 1 rfl) ?_
  refine lv_aload_n hx hb dX7_patternNumbered_5 rfl (lv_at hl 0 rfl) ?_
  refine q_get (C := RX7) (T := TX7) (N := 7) hx hb hts iRX7 hown hC.1 (hW.to qLV0) rfl 1 (by decide) (hts (.fieldLink RX7 16 "LogWeave" "patternList" "Ljava/util/ArrayList;") (List.mem_of_getElem? (i := 3) (by decide +kernel))) rfl (v := .ref (ad 1 1)) rfl dX7_patternNumbered_6 ?_
  refine q_v (va_runV (As := []) (rest := [.int (nI i)]) ⟨hx, hb, hml, hown, hts⟩ (m_size l G (ad 1 1) _ _ (nI (σ 0 1))) (cwV 0 hts gX7_patternNumbered_Jx4a65c_size_8abf5 rfl rfl rfl (by decide +kernel) ⟨Nat.le_of_ble_eq_true rfl, Nat.le_of_ble_eq_true rfl⟩) ⟨qO.blind, qrecv hC (hW.to (qLV1 (j := 1) (by decide))) rfl, qO.pre hC (hW.lob (by decide))⟩ rfl rfl hl.1 rfl (lv_room (Nat.le_of_ble_eq_true rfl)) dX7_patternNumbered_9 ⟨Nat.le_of_ble_eq_true rfl, Nat.le_of_ble_eq_true rfl⟩) hS (fun _ h => h.elim) (fun locs hS => ?_)
  refine q_lt (tgt := 26) hx hb (by omega) (q31 (hB _ _)) dX7_patternNumbered_12 (by decide) (fun g2 => ?_) (fun g2 => (by omega))
  refine lv_aload_n hx hb dX7_patternNumbered_26 rfl (lv_at hl 0 rfl) ?_
  refine q_get (C := RX7) (T := TX7) (N := 7) hx hb hts iRX7 hown hC.1 (hW.to qLV0) rfl 1 (by decide) (hts (.fieldLink RX7 16 "LogWeave" "patternList" "Ljava/util/ArrayList;") (List.mem_of_getElem? (i := 3) (by decide +kernel))) rfl (v := .ref (ad 1 1)) rfl dX7_patternNumbered_27 ?_
  refine lv_iload_n hx hb dX7_patternNumbered_30 rfl (lv_at hl 1 rfl) ?_
  refine q_v (va_runV (As := [.int (nI i)]) (rest := []) ⟨hx, hb, hml, hown, hts⟩ (m_get l G (ad 1 1) (ad 2 1) (σ 32 1) (σ 0 1) (fun i => if i < σ 0 1 then some (ad (4 + 2 * 1) i) else none) (.int (nI (σ 16 1))) i (ad 6 i) hi (hF.c 1) (hB _ _) (if_pos hi)) (cwV 1 hts gX7_patternNumbered_Jx4a65c_get_915e3 rfl rfl rfl (by decide +kernel) ⟨Nat.le_of_ble_eq_true rfl, Nat.le_of_ble_eq_true rfl⟩) ⟨qO.blind, qrecv hC (hW.to (qLV1 (j := 1) (by decide))) rfl, qO.pre hC (hW.list hF (J := 1) (by decide) hi)⟩ rfl rfl hl.1 rfl (lv_room (Nat.le_of_ble_eq_true rfl)) dX7_patternNumbered_31 ⟨Nat.le_of_ble_eq_true rfl, Nat.le_of_ble_eq_true rfl⟩) hS (fun _ h => h.elim) (fun locs hS => ?_)
  refine va_castS hx hb hown (hts (.classLink RX7 112 "LogWeave$Pattern") (List.mem_of_getElem? (i := 4) (by decide +kernel))) (hC.1.1 7 _ rfl).2 (qrecv hC (hW.to (qLV6 hi)) rfl) dX7_patternNumbered_34 ?_
  refine lv_astore_n (lv' := [(2, .ref (ad 6 i)), (0, .ref (ad 0 0)), (1, .int (nI i))]) hx hb dX7_patternNumbered_37 rfl hl (by decide) rfl (fun ls hl => ?_)
  refine lv_aload_n hx hb dX7_patternNumbered_38 rfl (lv_at hl 0 rfl) ?_
  refine q_getN (C := RX4) (T := TX4) (N := 4) hx hb hts iRX4 hown hC.1 (hW.to (qLV6 hi)) rfl 3 (by decide) (va_Nw.use rfl (qf_RX7_127 hC)) rfl (v := .int (nI (σ 97 i))) rfl dX7_patternNumbered_39 ?_
  refine q_eq0 (tgt := 56) hx hb (q31 (hB _ _)) dX7_patternNumbered_42 (by decide) (fun g3 => ?_) (fun g3 => (by omega))
  refine lv_aload_n hx hb dX7_patternNumbered_56 rfl (lv_at hl 0 rfl) ?_
  exact W.aret hx hb hr (Or.inl ⟨_, rfl⟩) (Or.inr ⟨_, rfl⟩) (fun t ht _ => ⟨rfl, ht⟩) hS.2.2 dX7_patternNumbered_57
set_option maxHeartbeats 4000000 in
set_option maxRecDepth 100000 in
theorem m_checkSource (l : Launch) (s0 : Nat) (hs0 : s0 < 4) : Met l yX7_checkSource wsX7_checkSource ({ frames := 2, cells := 0, slots := 0, locals := 42 } : Room) (qU [.int (nI s0)]) (qPV none) 0 0 (fun _ => False) := by
  refine Met.ofW (cc := cX7_checkSource) (maxL := 1) (ret := none) (by decide) rfl ?_
  intro p e s m args below meth c s₁ B hml hv
  obtain ⟨rfl, -⟩ := hv
  have hx := B.exec
  have hb := B.bytes
  have hr := B.returns
  have hts := atoms_spec (ws := wsX7_checkSource) B.pre
  have hown : s.vm.findClass RX7 = some m.cls := findClass_of_methodNamed B.named
  have hlocks := B.notSynchronized
  have hS : va_S (fun _ => False) s.heap s.heap [] := va_S.rf
  have hl := lv_entry ([.int (nI s0)]) (n := 1) (Nat.le_of_ble_eq_true rfl)
  rw [lg_entry_eq]
  generalize (lg_sl ([.int (nI s0)]) ++ List.replicate (1 - (lg_sl ([.int (nI s0)])).length) Slot.unset).toArray = ls at hl ⊢
  have hl : lv_has ls 1 [(0, .int (nI s0))] := hl
  have hq : qB (nI 0 ≤ nI s0 ∧ nI s0 ≤ nI 3) = 1 := qB_t ⟨nI_le (Nat.zero_le _) (by omega), nI_le (by omega) (by decide)⟩
  refine lv_iload_n hx hb dX7_checkSource_0 rfl (lv_at hl 0 rfl) ?_
  refine q_v (va_runS (As := [.int (nI s0)]) (rest := []) ⟨hx, hb, hml, hown, hts⟩ (m_isSource l (nI s0)) (va_cwS 1 hts gX7_checkSource_X7_isSource rfl rfl rfl (by decide +kernel) ⟨Nat.le_of_ble_eq_true rfl, Nat.le_of_ble_eq_true rfl⟩) ⟨qU.blind, qU.pre⟩ rfl rfl hl.1 rfl (lv_room (Nat.le_of_ble_eq_true rfl)) dX7_checkSource_1 ⟨Nat.le_of_ble_eq_true rfl, Nat.le_of_ble_eq_true rfl⟩) hS (fun _ h => h.elim) (fun locs hS => ?_)
  refine q_ti (y := nI 1) (by rw [hq]) ?_
  refine q_ne0 (tgt := 18) hx hb (by decide) dX7_checkSource_4 (by decide) (fun c2 => ?_) (fun c2 => absurd c2 (by decide))
  exact W.vret hx hb hr (fun t ht _ => ⟨rfl, ht⟩) hS.2.2 dX7_checkSource_18
set_option maxHeartbeats 4000000 in
set_option maxRecDepth 100000 in
theorem m_stateOf (l : Launch) (G : QG) (es : Nat) (A : Nat → Prop) (σ ad : QSt) (hF : qWF σ) (i : Nat) (hi : i < σ 0 0) : Met l yX7_stateOf wsX7_stateOf ({ frames := 4, cells := 0, slots := 0, locals := 85 } : Room) (qR G es A σ ad [.ref (ad 0 0), .int (nI i)]) (qPV (some (.int (nI (σ 69 i))))) 0 0 (fun _ => False) := by
  refine Met.ofW (cc := cX7_stateOf) (maxL := 2) (ret := (some .char)) (by decide) rfl ?_
  intro p e s m args below meth c s₁ B hml hv
  obtain ⟨rfl, hC, hW⟩ := hv
  have hx := B.exec
  have hb := B.bytes
  have hr := B.returns
  have hts := atoms_spec (ws := wsX7_stateOf) B.pre
  have hown : s.vm.findClass RX7 = some m.cls := findClass_of_methodNamed B.named
  have hlocks := B.notSynchronized
  have hB := hF.1
  have hn := hF.n
  have hS : va_S (fun _ => False) s.heap s.heap [] := va_S.rf
  have hl := lv_entry ([.ref (ad 0 0), .int (nI i)]) (n := 2) (Nat.le_of_ble_eq_true rfl)
  rw [lg_entry_eq]
  generalize (lg_sl ([.ref (ad 0 0), .int (nI i)]) ++ List.replicate (2 - (lg_sl ([.ref (ad 0 0), .int (nI i)])).length) Slot.unset).toArray = ls at hl ⊢
  have hl : lv_has ls 2 [(0, .ref (ad 0 0)), (1, .int (nI i))] := hl
  have iRX7 : ∀ w ∈ wsX70, w ∈ wsX7_stateOf := by decide +kernel
  have iRX3 : ∀ w ∈ wsX30, w ∈ wsX7_stateOf := by decide +kernel
  refine lv_aload_n hx hb dX7_stateOf_0 rfl (lv_at hl 0 rfl) ?_
  refine lv_iload_n hx hb dX7_stateOf_1 rfl (lv_at hl 1 rfl) ?_
  refine q_v (va_runV (As := [.int (nI i)]) (rest := []) ⟨hx, hb, hml, hown, hts⟩ (m_lineNumbered l G es A σ ad hF i hi) (cwV 1 hts gX7_stateOf_X7_lineNumbered rfl rfl rfl (by decide +kernel) ⟨Nat.le_of_ble_eq_true rfl, Nat.le_of_ble_eq_true rfl⟩) ⟨qR.blind, qrecv hC (hW.to qLV0) rfl, qR.pre hC hW⟩ rfl rfl hl.1 rfl (lv_room (Nat.le_of_ble_eq_true rfl)) dX7_stateOf_2 ⟨Nat.le_of_ble_eq_true rfl, Nat.le_of_ble_eq_true rfl⟩) hS (fun _ h => h.elim) (fun locs hS => ?_)
  refine q_getN (C := RX3) (T := TX3) (N := 8) hx hb hts iRX3 hown hC.1 (hW.to (qLV4 hi)) rfl 6 (by decide) (va_Nw.use rfl (qf_RX7_103 hC)) rfl (v := .int (nI (σ 69 i))) rfl dX7_stateOf_5 ?_
  exact W.zret hx hb hr (q_nchar _ (hF.lst hi)) (fun t ht _ => ⟨rfl, ht⟩) hS.2.2 dX7_stateOf_8
set_option maxHeartbeats 4000000 in
set_option maxRecDepth 100000 in
theorem m_patternOf (l : Launch) (G : QG) (es : Nat) (A : Nat → Prop) (σ ad : QSt) (hF : qWF σ) (i : Nat) (hi : i < σ 0 0) : Met l yX7_patternOf wsX7_patternOf ({ frames := 4, cells := 0, slots := 0, locals := 85 } : Room) (qR G es A σ ad [.ref (ad 0 0), .int (nI i)]) (qPV (some (.int (nI (σ 68 i))))) 0 0 (fun _ => False) := by
  refine Met.ofW (cc := cX7_patternOf) (maxL := 2) (ret := (some .int)) (by decide) rfl ?_
  intro p e s m args below meth c s₁ B hml hv
  obtain ⟨rfl, hC, hW⟩ := hv
  have hx := B.exec
  have hb := B.bytes
  have hr := B.returns
  have hts := atoms_spec (ws := wsX7_patternOf) B.pre
  have hown : s.vm.findClass RX7 = some m.cls := findClass_of_methodNamed B.named
  have hlocks := B.notSynchronized
  have hB := hF.1
  have hn := hF.n
  have hS : va_S (fun _ => False) s.heap s.heap [] := va_S.rf
  have hl := lv_entry ([.ref (ad 0 0), .int (nI i)]) (n := 2) (Nat.le_of_ble_eq_true rfl)
  rw [lg_entry_eq]
  generalize (lg_sl ([.ref (ad 0 0), .int (nI i)]) ++ List.replicate (2 - (lg_sl ([.ref (ad 0 0), .int (nI i)])).length) Slot.unset).toArray = ls at hl ⊢
  have hl : lv_has ls 2 [(0, .ref (ad 0 0)), (1, .int (nI i))] := hl
  have iRX7 : ∀ w ∈ wsX70, w ∈ wsX7_patternOf := by decide +kernel
  have iRX3 : ∀ w ∈ wsX30, w ∈ wsX7_patternOf := by decide +kernel
  have iRX4 : ∀ w ∈ wsX40, w ∈ wsX7_patternOf := by decide +kernel
  refine lv_aload_n hx hb dX7_patternOf_0 rfl (lv_at hl 0 rfl) ?_
  refine lv_iload_n hx hb dX7_patternOf_1 rfl (lv_at hl 1 rfl) ?_
  refine q_v (va_runV (As := [.int (nI i)]) (rest := []) ⟨hx, hb, hml, hown, hts⟩ (m_lineNumbered l G es A σ ad hF i hi) (cwV 1 hts gX7_patternOf_X7_lineNumbered rfl rfl rfl (by decide +kernel) ⟨Nat.le_of_ble_eq_true rfl, Nat.le_of_ble_eq_true rfl⟩) ⟨qR.blind, qrecv hC (hW.to qLV0) rfl, qR.pre hC hW⟩ rfl rfl hl.1 rfl (lv_room (Nat.le_of_ble_eq_true rfl)) dX7_patternOf_2 ⟨Nat.le_of_ble_eq_true rfl, Nat.le_of_ble_eq_true rfl⟩) hS (fun _ h => h.elim) (fun locs hS => ?_)
  have hp9 := hF.pat hi
  refine q_getN (C := RX3) (T := TX3) (N := 8) hx hb hts iRX3 hown hC.1 (hW.to (qLV4 hi)) rfl 5 (by decide) (va_Nw.use rfl (qf_RX7_107 hC)) rfl (v := .ref (ad 6 (σ 68 i))) rfl dX7_patternOf_5 ?_
  refine q_getN (C := RX4) (T := TX4) (N := 4) hx hb hts iRX4 hown hC.1 (hW.to (qLV6 hp9)) rfl 0 (by decide) (va_Nw.use rfl (qf_RX7_111 hC)) rfl (v := .int (nI (σ 68 i))) rfl dX7_patternOf_8 ?_
  exact W.iret hx hb hr (fun t ht _ => ⟨rfl, ht⟩) hS.2.2 dX7_patternOf_11
set_option maxHeartbeats 4000000 in
set_option maxRecDepth 100000 in
theorem m_alertState (l : Launch) (G : QG) (es : Nat) (A : Nat → Prop) (σ ad : QSt) (hF : qWF σ) (i : Nat) (hi : i < σ 0 2) : Met l yX7_alertState wsX7_alertState ({ frames := 4, cells := 0, slots := 0, locals := 85 } : Room) (qR G es A σ ad [.ref (ad 0 0), .int (nI i)]) (qPV (some (.int (nI (σ 131 i))))) 0 0 (fun _ => False) := by
  refine Met.ofW (cc := cX7_alertState) (maxL := 2) (ret := (some .char)) (by decide) rfl ?_
  intro p e s m args below meth c s₁ B hml hv
  obtain ⟨rfl, hC, hW⟩ := hv
  have hx := B.exec
  have hb := B.bytes
  have hr := B.returns
  have hts := atoms_spec (ws := wsX7_alertState) B.pre
  have hown : s.vm.findClass RX7 = some m.cls := findClass_of_methodNamed B.named
  have hlocks := B.notSynchronized
  have hB := hF.1
  have hn := hF.n
  have hS : va_S (fun _ => False) s.heap s.heap [] := va_S.rf
  have hl := lv_entry ([.ref (ad 0 0), .int (nI i)]) (n := 2) (Nat.le_of_ble_eq_true rfl)
  rw [lg_entry_eq]
  generalize (lg_sl ([.ref (ad 0 0), .int (nI i)]) ++ List.replicate (2 - (lg_sl ([.ref (ad 0 0), .int (nI i)])).length) Slot.unset).toArray = ls at hl ⊢
  have hl : lv_has ls 2 [(0, .ref (ad 0 0)), (1, .int (nI i))] := hl
  have iRX7 : ∀ w ∈ wsX70, w ∈ wsX7_alertState := by decide +kernel
  have iRX0 : ∀ w ∈ wsX00, w ∈ wsX7_alertState := by decide +kernel
  refine lv_aload_n hx hb dX7_alertState_0 rfl (lv_at hl 0 rfl) ?_
  refine lv_iload_n hx hb dX7_alertState_1 rfl (lv_at hl 1 rfl) ?_
  refine q_v (va_runV (As := [.int (nI i)]) (rest := []) ⟨hx, hb, hml, hown, hts⟩ (m_alertNumbered l G es A σ ad hF i hi) (cwV 1 hts gX7_alertState_X7_alertNumbered rfl rfl rfl (by decide +kernel) ⟨Nat.le_of_ble_eq_true rfl, Nat.le_of_ble_eq_true rfl⟩) ⟨qR.blind, qrecv hC (hW.to qLV0) rfl, qR.pre hC hW⟩ rfl rfl hl.1 rfl (lv_room (Nat.le_of_ble_eq_true rfl)) dX7_alertState_2 ⟨Nat.le_of_ble_eq_true rfl, Nat.le_of_ble_eq_true rfl⟩) hS (fun _ h => h.elim) (fun locs hS => ?_)
  refine q_getN (C := RX0) (T := TX0) (N := 9) hx hb hts iRX0 hown hC.1 (hW.to (qLV8 hi)) rfl 5 (by decide) (va_Nw.use rfl (qf_RX7_212 hC)) rfl (v := .int (nI (σ 131 i))) rfl dX7_alertState_5 ?_
  exact W.zret hx hb hr (q_nchar _ (hF.ast hi)) (fun t ht _ => ⟨rfl, ht⟩) hS.2.2 dX7_alertState_8
set_option maxHeartbeats 4000000 in
set_option maxRecDepth 100000 in
theorem m_counted (l : Launch) (G : QG) (es : Nat) (A : Nat → Prop) (σ ad : QSt) (hF : qWF σ) (i : Nat) (hi : i < σ 0 2) : Met l yX7_counted wsX7_counted ({ frames := 4, cells := 0, slots := 0, locals := 85 } : Room) (qR G es A σ ad [.ref (ad 0 0), .int (nI i)]) (qPV (some (.int (nI (σ 132 i))))) 0 0 (fun _ => False) := by
  refine Met.ofW (cc := cX7_counted) (maxL := 2) (ret := (some .int)) (by decide) rfl ?_
  intro p e s m args below meth c s₁ B hml hv
  obtain ⟨rfl, hC, hW⟩ := hv
  have hx := B.exec
  have hb := B.bytes
  have hr := B.returns
  have hts := atoms_spec (ws := wsX7_counted) B.pre
  have hown : s.vm.findClass RX7 = some m.cls := findClass_of_methodNamed B.named
  have hlocks := B.notSynchronized
  have hB := hF.1
  have hn := hF.n
  have hS : va_S (fun _ => False) s.heap s.heap [] := va_S.rf
  have hl := lv_entry ([.ref (ad 0 0), .int (nI i)]) (n := 2) (Nat.le_of_ble_eq_true rfl)
  rw [lg_entry_eq]
  generalize (lg_sl ([.ref (ad 0 0), .int (nI i)]) ++ List.replicate (2 - (lg_sl ([.ref (ad 0 0), .int (nI i)])).length) Slot.unset).toArray = ls at hl ⊢
  have hl : lv_has ls 2 [(0, .ref (ad 0 0)), (1, .int (nI i))] := hl
  have iRX7 : ∀ w ∈ wsX70, w ∈ wsX7_counted := by decide +kernel
  have iRX0 : ∀ w ∈ wsX00, w ∈ wsX7_counted := by decide +kernel
  refine lv_aload_n hx hb dX7_counted_0 rfl (lv_at hl 0 rfl) ?_
  refine lv_iload_n hx hb dX7_counted_1 rfl (lv_at hl 1 rfl) ?_
  refine q_v (va_runV (As := [.int (nI i)]) (rest := []) ⟨hx, hb, hml, hown, hts⟩ (m_alertNumbered l G es A σ ad hF i hi) (cwV 1 hts gX7_counted_X7_alertNumbered rfl rfl rfl (by decide +kernel) ⟨Nat.le_of_ble_eq_true rfl, Nat.le_of_ble_eq_true rfl⟩) ⟨qR.blind, qrecv hC (hW.to qLV0) rfl, qR.pre hC hW⟩ rfl rfl hl.1 rfl (lv_room (Nat.le_of_ble_eq_true rfl)) dX7_counted_2 ⟨Nat.le_of_ble_eq_true rfl, Nat.le_of_ble_eq_true rfl⟩) hS (fun _ h => h.elim) (fun locs hS => ?_)
  refine q_getN (C := RX0) (T := TX0) (N := 9) hx hb hts iRX0 hown hC.1 (hW.to (qLV8 hi)) rfl 6 (by decide) (va_Nw.use rfl (qf_RX7_213 hC)) rfl (v := .int (nI (σ 132 i))) rfl dX7_counted_5 ?_
  exact W.iret hx hb hr (fun t ht _ => ⟨rfl, ht⟩) hS.2.2 dX7_counted_8
set_option maxHeartbeats 4000000 in
set_option maxRecDepth 100000 in
theorem m_heldFor (l : Launch) (G : QG) (es : Nat) (A : Nat → Prop) (σ ad : QSt) (hF : qWF σ) (i : Nat) (hi : i < σ 0 2) : Met l yX7_heldFor wsX7_heldFor ({ frames := 4, cells := 0, slots := 0, locals := 85 } : Room) (qR G es A σ ad [.ref (ad 0 0), .int (nI i)]) (qPV (some (.int (nI (σ 133 i))))) 0 0 (fun _ => False) := by
  refine Met.ofW (cc := cX7_heldFor) (maxL := 2) (ret := (some .int)) (by decide) rfl ?_
  intro p e s m args below meth c s₁ B hml hv
  obtain ⟨rfl, hC, hW⟩ := hv
  have hx := B.exec
  have hb := B.bytes
  have hr := B.returns
  have hts := atoms_spec (ws := wsX7_heldFor) B.pre
  have hown : s.vm.findClass RX7 = some m.cls := findClass_of_methodNamed B.named
  have hlocks := B.notSynchronized
  have hB := hF.1
  have hn := hF.n
  have hS : va_S (fun _ => False) s.heap s.heap [] := va_S.rf
  have hl := lv_entry ([.ref (ad 0 0), .int (nI i)]) (n := 2) (Nat.le_of_ble_eq_true rfl)
  rw [lg_entry_eq]
  generalize (lg_sl ([.ref (ad 0 0), .int (nI i)]) ++ List.replicate (2 - (lg_sl ([.ref (ad 0 0), .int (nI i)])).length) Slot.unset).toArray = ls at hl ⊢
  have hl : lv_has ls 2 [(0, .ref (ad 0 0)), (1, .int (nI i))] := hl
  have iRX7 : ∀ w ∈ wsX70, w ∈ wsX7_heldFor := by decide +kernel
  have iRX0 : ∀ w ∈ wsX00, w ∈ wsX7_heldFor := by decide +kernel
  refine lv_aload_n hx hb dX7_heldFor_0 rfl (lv_at hl 0 rfl) ?_
  refine lv_iload_n hx hb dX7_heldFor_1 rfl (lv_at hl 1 rfl) ?_
  refine q_v (va_runV (As := [.int (nI i)]) (rest := []) ⟨hx, hb, hml, hown, hts⟩ (m_alertNumbered l G es A σ ad hF i hi) (cwV 1 hts gX7_heldFor_X7_alertNumbered rfl rfl rfl (by decide +kernel) ⟨Nat.le_of_ble_eq_true rfl, Nat.le_of_ble_eq_true rfl⟩) ⟨qR.blind, qrecv hC (hW.to qLV0) rfl, qR.pre hC hW⟩ rfl rfl hl.1 rfl (lv_room (Nat.le_of_ble_eq_true rfl)) dX7_heldFor_2 ⟨Nat.le_of_ble_eq_true rfl, Nat.le_of_ble_eq_true rfl⟩) hS (fun _ h => h.elim) (fun locs hS => ?_)
  refine q_getN (C := RX0) (T := TX0) (N := 9) hx hb hts iRX0 hown hC.1 (hW.to (qLV8 hi)) rfl 7 (by decide) (va_Nw.use rfl (qf_RX7_220 hC)) rfl (v := .int (nI (σ 133 i))) rfl dX7_heldFor_5 ?_
  exact W.iret hx hb hr (fun t ht _ => ⟨rfl, ht⟩) hS.2.2 dX7_heldFor_8
set_option maxHeartbeats 4000000 in
set_option maxRecDepth 100000 in
theorem m_alertOf (l : Launch) (G : QG) (es : Nat) (A : Nat → Prop) (σ ad : QSt) (hF : qWF σ) (i : Nat) (hi : i < σ 0 3) : Met l yX7_alertOf wsX7_alertOf ({ frames := 4, cells := 0, slots := 0, locals := 85 } : Room) (qR G es A σ ad [.ref (ad 0 0), .int (nI i)]) (qPV (some (.int (nI (σ 160 i))))) 0 0 (fun _ => False) := by
  refine Met.ofW (cc := cX7_alertOf) (maxL := 2) (ret := (some .int)) (by decide) rfl ?_
  intro p e s m args below meth c s₁ B hml hv
  obtain ⟨rfl, hC, hW⟩ := hv
  have hx := B.exec
  have hb := B.bytes
  have hr := B.returns
  have hts := atoms_spec (ws := wsX7_alertOf) B.pre
  have hown : s.vm.findClass RX7 = some m.cls := findClass_of_methodNamed B.named
  have hlocks := B.notSynchronized
  have hB := hF.1
  have hn := hF.n
  have hS : va_S (fun _ => False) s.heap s.heap [] := va_S.rf
  have hl := lv_entry ([.ref (ad 0 0), .int (nI i)]) (n := 2) (Nat.le_of_ble_eq_true rfl)
  rw [lg_entry_eq]
  generalize (lg_sl ([.ref (ad 0 0), .int (nI i)]) ++ List.replicate (2 - (lg_sl ([.ref (ad 0 0), .int (nI i)])).length) Slot.unset).toArray = ls at hl ⊢
  have hl : lv_has ls 2 [(0, .ref (ad 0 0)), (1, .int (nI i))] := hl
  have iRX7 : ∀ w ∈ wsX70, w ∈ wsX7_alertOf := by decide +kernel
  have iRX2 : ∀ w ∈ wsX20, w ∈ wsX7_alertOf := by decide +kernel
  have iRX0 : ∀ w ∈ wsX00, w ∈ wsX7_alertOf := by decide +kernel
  refine lv_aload_n hx hb dX7_alertOf_0 rfl (lv_at hl 0 rfl) ?_
  refine lv_iload_n hx hb dX7_alertOf_1 rfl (lv_at hl 1 rfl) ?_
  refine q_v (va_runV (As := [.int (nI i)]) (rest := []) ⟨hx, hb, hml, hown, hts⟩ (m_firingNumbered l G es A σ ad hF i hi) (cwV 1 hts gX7_alertOf_X7_firingNumbered rfl rfl rfl (by decide +kernel) ⟨Nat.le_of_ble_eq_true rfl, Nat.le_of_ble_eq_true rfl⟩) ⟨qR.blind, qrecv hC (hW.to qLV0) rfl, qR.pre hC hW⟩ rfl rfl hl.1 rfl (lv_room (Nat.le_of_ble_eq_true rfl)) dX7_alertOf_2 ⟨Nat.le_of_ble_eq_true rfl, Nat.le_of_ble_eq_true rfl⟩) hS (fun _ h => h.elim) (fun locs hS => ?_)
  have hp9 := hF.alt hi
  refine q_getN (C := RX2) (T := TX2) (N := 5) hx hb hts iRX2 hown hC.1 (hW.to (qLV10 hi)) rfl 0 (by decide) (va_Nw.use rfl (qf_RX7_227 hC)) rfl (v := .ref (ad 8 (σ 160 i))) rfl dX7_alertOf_5 ?_
  refine q_getN (C := RX0) (T := TX0) (N := 9) hx hb hts iRX0 hown hC.1 (hW.to (qLV8 hp9)) rfl 0 (by decide) (va_Nw.use rfl (qf_RX7_233 hC)) rfl (v := .int (nI (σ 160 i))) rfl dX7_alertOf_8 ?_
  exact W.iret hx hb hr (fun t ht _ => ⟨rfl, ht⟩) hS.2.2 dX7_alertOf_11
set_option maxHeartbeats 4000000 in
set_option maxRecDepth 100000 in
theorem m_firedAt (l : Launch) (G : QG) (es : Nat) (A : Nat → Prop) (σ ad : QSt) (hF : qWF σ) (i : Nat) (hi : i < σ 0 3) : Met l yX7_firedAt wsX7_firedAt ({ frames := 4, cells := 0, slots := 0, locals := 85 } : Room) (qR G es A σ ad [.ref (ad 0 0), .int (nI i)]) (qPV (some (.int (nI (σ 161 i))))) 0 0 (fun _ => False) := by
  refine Met.ofW (cc := cX7_firedAt) (maxL := 2) (ret := (some .int)) (by decide) rfl ?_
  intro p e s m args below meth c s₁ B hml hv
  obtain ⟨rfl, hC, hW⟩ := hv
  have hx := B.exec
  have hb := B.bytes
  have hr := B.returns
  have hts := atoms_spec (ws := wsX7_firedAt) B.pre
  have hown : s.vm.findClass RX7 = some m.cls := findClass_of_methodNamed B.named
  have hlocks := B.notSynchronized
  have hB := hF.1
  have hn := hF.n
  have hS : va_S (fun _ => False) s.heap s.heap [] := va_S.rf
  have hl := lv_entry ([.ref (ad 0 0), .int (nI i)]) (n := 2) (Nat.le_of_ble_eq_true rfl)
  rw [lg_entry_eq]
  generalize (lg_sl ([.ref (ad 0 0), .int (nI i)]) ++ List.replicate (2 - (lg_sl ([.ref (ad 0 0), .int (nI i)])).length) Slot.unset).toArray = ls at hl ⊢
  have hl : lv_has ls 2 [(0, .ref (ad 0 0)), (1, .int (nI i))] := hl
  have iRX7 : ∀ w ∈ wsX70, w ∈ wsX7_firedAt := by decide +kernel
  have iRX2 : ∀ w ∈ wsX20, w ∈ wsX7_firedAt := by decide +kernel
  refine lv_aload_n hx hb dX7_firedAt_0 rfl (lv_at hl 0 rfl) ?_
  refine lv_iload_n hx hb dX7_firedAt_1 rfl (lv_at hl 1 rfl) ?_
  refine q_v (va_runV (As := [.int (nI i)]) (rest := []) ⟨hx, hb, hml, hown, hts⟩ (m_firingNumbered l G es A σ ad hF i hi) (cwV 1 hts gX7_firedAt_X7_firingNumbered rfl rfl rfl (by decide +kernel) ⟨Nat.le_of_ble_eq_true rfl, Nat.le_of_ble_eq_true rfl⟩) ⟨qR.blind, qrecv hC (hW.to qLV0) rfl, qR.pre hC hW⟩ rfl rfl hl.1 rfl (lv_room (Nat.le_of_ble_eq_true rfl)) dX7_firedAt_2 ⟨Nat.le_of_ble_eq_true rfl, Nat.le_of_ble_eq_true rfl⟩) hS (fun _ h => h.elim) (fun locs hS => ?_)
  refine q_getN (C := RX2) (T := TX2) (N := 5) hx hb hts iRX2 hown hC.1 (hW.to (qLV10 hi)) rfl 1 (by decide) (va_Nw.use rfl (qf_RX7_234 hC)) rfl (v := .int (nI (σ 161 i))) rfl dX7_firedAt_5 ?_
  exact W.iret hx hb hr (fun t ht _ => ⟨rfl, ht⟩) hS.2.2 dX7_firedAt_8
set_option maxHeartbeats 4000000 in
set_option maxRecDepth 100000 in
theorem m_ground (l : Launch) (G : QG) (es : Nat) (A : Nat → Prop) (σ ad : QSt) (hF : qWF σ) (i : Nat) (hi : i < σ 0 3) : Met l yX7_ground wsX7_ground ({ frames := 4, cells := 0, slots := 0, locals := 85 } : Room) (qR G es A σ ad [.ref (ad 0 0), .int (nI i)]) (qPV (some (.int (nI (σ 163 i))))) 0 0 (fun _ => False) := by
  refine Met.ofW (cc := cX7_ground) (maxL := 2) (ret := (some .int)) (by decide) rfl ?_
  intro p e s m args below meth c s₁ B hml hv
  obtain ⟨rfl, hC, hW⟩ := hv
  have hx := B.exec
  have hb := B.bytes
  have hr := B.returns
  have hts := atoms_spec (ws := wsX7_ground) B.pre
  have hown : s.vm.findClass RX7 = some m.cls := findClass_of_methodNamed B.named
  have hlocks := B.notSynchronized
  have hB := hF.1
  have hn := hF.n
  have hS : va_S (fun _ => False) s.heap s.heap [] := va_S.rf
  have hl := lv_entry ([.ref (ad 0 0), .int (nI i)]) (n := 2) (Nat.le_of_ble_eq_true rfl)
  rw [lg_entry_eq]
  generalize (lg_sl ([.ref (ad 0 0), .int (nI i)]) ++ List.replicate (2 - (lg_sl ([.ref (ad 0 0), .int (nI i)])).length) Slot.unset).toArray = ls at hl ⊢
  have hl : lv_has ls 2 [(0, .ref (ad 0 0)), (1, .int (nI i))] := hl
  have iRX7 : ∀ w ∈ wsX70, w ∈ wsX7_ground := by decide +kernel
  have iRX2 : ∀ w ∈ wsX20, w ∈ wsX7_ground := by decide +kernel
  refine lv_aload_n hx hb dX7_ground_0 rfl (lv_at hl 0 rfl) ?_
  refine lv_iload_n hx hb dX7_ground_1 rfl (lv_at hl 1 rfl) ?_
  refine q_v (va_runV (As := [.int (nI i)]) (rest := []) ⟨hx, hb, hml, hown, hts⟩ (m_firingNumbered l G es A σ ad hF i hi) (cwV 1 hts gX7_ground_X7_firingNumbered rfl rfl rfl (by decide +kernel) ⟨Nat.le_of_ble_eq_true rfl, Nat.le_of_ble_eq_true rfl⟩) ⟨qR.blind, qrecv hC (hW.to qLV0) rfl, qR.pre hC hW⟩ rfl rfl hl.1 rfl (lv_room (Nat.le_of_ble_eq_true rfl)) dX7_ground_2 ⟨Nat.le_of_ble_eq_true rfl, Nat.le_of_ble_eq_true rfl⟩) hS (fun _ h => h.elim) (fun locs hS => ?_)
  refine q_getN (C := RX2) (T := TX2) (N := 5) hx hb hts iRX2 hown hC.1 (hW.to (qLV10 hi)) rfl 3 (by decide) (va_Nw.use rfl (qf_RX7_237 hC)) rfl (v := .int (nI (σ 163 i))) rfl dX7_ground_5 ?_
  exact W.iret hx hb hr (fun t ht _ => ⟨rfl, ht⟩) hS.2.2 dX7_ground_8
set_option maxHeartbeats 4000000 in
set_option maxRecDepth 100000 in
theorem m_lines (l : Launch) (G : QG) (es : Nat) (A : Nat → Prop) (σ ad : QSt) (hF : qWF σ)  : Met l yX7_lines wsX7_lines ({ frames := 1, cells := 0, slots := 0, locals := 20 } : Room) (qR G es A σ ad [.ref (ad 0 0)]) (qPV (some (.int (nI (σ 0 0))))) 0 0 (fun _ => False) := by
  refine Met.ofW (cc := cX7_lines) (maxL := 1) (ret := (some .int)) (by decide) rfl ?_
  intro p e s m args below meth c s₁ B hml hv
  obtain ⟨rfl, hC, hW⟩ := hv
  have hx := B.exec
  have hb := B.bytes
  have hr := B.returns
  have hts := atoms_spec (ws := wsX7_lines) B.pre
  have hown : s.vm.findClass RX7 = some m.cls := findClass_of_methodNamed B.named
  have hlocks := B.notSynchronized
  have hB := hF.1
  have hn := hF.n
  have hS : va_S (fun _ => False) s.heap s.heap [] := va_S.rf
  have hl := lv_entry ([.ref (ad 0 0)]) (n := 1) (Nat.le_of_ble_eq_true rfl)
  rw [lg_entry_eq]
  generalize (lg_sl ([.ref (ad 0 0)]) ++ List.replicate (1 - (lg_sl ([.ref (ad 0 0)])).length) Slot.unset).toArray = ls at hl ⊢
  have hl : lv_has ls 1 [(0, .ref (ad 0 0))] := hl
  have iRX7 : ∀ w ∈ wsX70, w ∈ wsX7_lines := by decide +kernel
  refine lv_aload_n hx hb dX7_lines_0 rfl (lv_at hl 0 rfl) ?_
  refine q_get (C := RX7) (T := TX7) (N := 7) hx hb hts iRX7 hown hC.1 (hW.to qLV0) rfl 0 (by decide) (hts (.fieldLink RX7 10 "LogWeave" "lineList" "Ljava/util/ArrayList;") (List.mem_of_getElem? (i := 1) (by decide +kernel))) rfl (v := .ref (ad 1 0)) rfl dX7_lines_1 ?_
  refine q_v (va_runV (As := []) (rest := []) ⟨hx, hb, hml, hown, hts⟩ (m_size l G (ad 1 0) _ _ (nI (σ 0 0))) (cwV 0 hts gX7_lines_Jx4a65c_size_8abf5 rfl rfl rfl (by decide +kernel) ⟨Nat.le_of_ble_eq_true rfl, Nat.le_of_ble_eq_true rfl⟩) ⟨qO.blind, qrecv hC (hW.to (qLV1 (j := 0) (by decide))) rfl, qO.pre hC (hW.lob (by decide))⟩ rfl rfl hl.1 rfl (lv_room (Nat.le_of_ble_eq_true rfl)) dX7_lines_4 ⟨Nat.le_of_ble_eq_true rfl, Nat.le_of_ble_eq_true rfl⟩) hS (fun _ h => h.elim) (fun locs hS => ?_)
  exact W.iret hx hb hr (fun t ht _ => ⟨rfl, ht⟩) hS.2.2 dX7_lines_7
set_option maxHeartbeats 4000000 in
set_option maxRecDepth 100000 in
theorem m_firings (l : Launch) (G : QG) (es : Nat) (A : Nat → Prop) (σ ad : QSt) (hF : qWF σ)  : Met l yX7_firings wsX7_firings ({ frames := 1, cells := 0, slots := 0, locals := 20 } : Room) (qR G es A σ ad [.ref (ad 0 0)]) (qPV (some (.int (nI (σ 0 3))))) 0 0 (fun _ => False) := by
  refine Met.ofW (cc := cX7_firings) (maxL := 1) (ret := (some .int)) (by decide) rfl ?_
  intro p e s m args below meth c s₁ B hml hv
  obtain ⟨rfl, hC, hW⟩ := hv
  have hx := B.exec
  have hb := B.bytes
  have hr := B.returns
  have hts := atoms_spec (ws := wsX7_firings) B.pre
  have hown : s.vm.findClass RX7 = some m.cls := findClass_of_methodNamed B.named
  have hlocks := B.notSynchronized
  have hB := hF.1
  have hn := hF.n
  have hS : va_S (fun _ => False) s.heap s.heap [] := va_S.rf
  have hl := lv_entry ([.ref (ad 0 0)]) (n := 1) (Nat.le_of_ble_eq_true rfl)
  rw [lg_entry_eq]
  generalize (lg_sl ([.ref (ad 0 0)]) ++ List.replicate (1 - (lg_sl ([.ref (ad 0 0)])).length) Slot.unset).toArray = ls at hl ⊢
  have hl : lv_has ls 1 [(0, .ref (ad 0 0))] := hl
  have iRX7 : ∀ w ∈ wsX70, w ∈ wsX7_firings := by decide +kernel
  refine lv_aload_n hx hb dX7_firings_0 rfl (lv_at hl 0 rfl) ?_
  refine q_get (C := RX7) (T := TX7) (N := 7) hx hb hts iRX7 hown hC.1 (hW.to qLV0) rfl 3 (by decide) (hts (.fieldLink RX7 22 "LogWeave" "firingList" "Ljava/util/ArrayList;") (List.mem_of_getElem? (i := 1) (by decide +kernel))) rfl (v := .ref (ad 1 3)) rfl dX7_firings_1 ?_
  refine q_v (va_runV (As := []) (rest := []) ⟨hx, hb, hml, hown, hts⟩ (m_size l G (ad 1 3) _ _ (nI (σ 0 3))) (cwV 0 hts gX7_firings_Jx4a65c_size_8abf5 rfl rfl rfl (by decide +kernel) ⟨Nat.le_of_ble_eq_true rfl, Nat.le_of_ble_eq_true rfl⟩) ⟨qO.blind, qrecv hC (hW.to (qLV1 (j := 3) (by decide))) rfl, qO.pre hC (hW.lob (by decide))⟩ rfl rfl hl.1 rfl (lv_room (Nat.le_of_ble_eq_true rfl)) dX7_firings_4 ⟨Nat.le_of_ble_eq_true rfl, Nat.le_of_ble_eq_true rfl⟩) hS (fun _ h => h.elim) (fun locs hS => ?_)
  exact W.iret hx hb hr (fun t ht _ => ⟨rfl, ht⟩) hS.2.2 dX7_firings_7
set_option maxHeartbeats 4000000 in
set_option maxRecDepth 100000 in
theorem m_tick (l : Launch) (G : QG) (es : Nat) (A : Nat → Prop) (σ ad : QSt) (hF : qWF σ)  : Met l yX7_tick wsX7_tick ({ frames := 0, cells := 0, slots := 0, locals := 0 } : Room) (qR G es A σ ad [.ref (ad 0 0)]) (qPV (some (.int (nI (σ 1 0))))) 0 0 (fun _ => False) := by
  refine Met.ofW (cc := cX7_tick) (maxL := 1) (ret := (some .int)) (by decide) rfl ?_
  intro p e s m args below meth c s₁ B hml hv
  obtain ⟨rfl, hC, hW⟩ := hv
  have hx := B.exec
  have hb := B.bytes
  have hr := B.returns
  have hts := atoms_spec (ws := wsX7_tick) B.pre
  have hown : s.vm.findClass RX7 = some m.cls := findClass_of_methodNamed B.named
  have hlocks := B.notSynchronized
  have hB := hF.1
  have hn := hF.n
  have hS : va_S (fun _ => False) s.heap s.heap [] := va_S.rf
  have hl := lv_entry ([.ref (ad 0 0)]) (n := 1) (Nat.le_of_ble_eq_true rfl)
  rw [lg_entry_eq]
  generalize (lg_sl ([.ref (ad 0 0)]) ++ List.replicate (1 - (lg_sl ([.ref (ad 0 0)])).length) Slot.unset).toArray = ls at hl ⊢
  have hl : lv_has ls 1 [(0, .ref (ad 0 0))] := hl
  have iRX7 : ∀ w ∈ wsX70, w ∈ wsX7_tick := by decide +kernel
  refine lv_aload_n hx hb dX7_tick_0 rfl (lv_at hl 0 rfl) ?_
  refine q_get (C := RX7) (T := TX7) (N := 7) hx hb hts iRX7 hown hC.1 (hW.to qLV0) rfl 6 (by decide) (hts (.fieldLink RX7 76 "LogWeave" "now" "I") (List.mem_of_getElem? (i := 1) (by decide +kernel))) rfl (v := .int (nI (σ 1 0))) rfl dX7_tick_1 ?_
  exact W.iret hx hb hr (fun t ht _ => ⟨rfl, ht⟩) hS.2.2 dX7_tick_4
