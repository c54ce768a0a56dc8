set_option maxHeartbeats 4000000 in
set_option maxRecDepth 100000 in
theorem x_lineNumbered (l : Launch) (hst : l.stackTraces = false) (G : QG) (es : Nat) (A : Nat → Prop) (σ ad : QSt) (hF : qWF σ) (x : Int32) (hx0 : ¬ rIn x (σ 0 0)) : vx_Met l yX7_lineNumbered wsX7_lineNumbered ({ frames := 6, cells := 1, slots := 6, locals := 82 } : Room) (qX G es A σ ad [.ref (ad 0 0), .int (x)]) qNR (qXX "java/util/NoSuchElementException") 1 6 A := by
  refine vx_ofW (cc := cX7_lineNumbered) (maxL := 2) (ret := (some (.object "LogWeave$Line"))) (by decide) rfl ?_
  intro p e s m args below meth c s₁ B hml htab hv
  obtain ⟨rfl, hC, hW, hZ, hT⟩ := hv
  have hx := B.exec
  have hb := B.bytes
  have hts := atoms_spec (ws := wsX7_lineNumbered) B.pre
  have hown : s.vm.findClass RX7 = some m.cls := findClass_of_methodNamed B.named
  have hlocks := B.notSynchronized
  have hB := hF.1
  have hn := hF.n
  have hS : va_S A s.heap s.heap [] := va_S.rf
  have hl := lv_entry ([.ref (ad 0 0), .int (x)]) (n := 2) (Nat.le_of_ble_eq_true rfl)
  rw [lg_entry_eq]
  generalize (lg_sl ([.ref (ad 0 0), .int (x)]) ++ List.replicate (2 - (lg_sl ([.ref (ad 0 0), .int (x)])).length) Slot.unset).toArray = ls at hl ⊢
  have hl : lv_has ls 2 [(0, .ref (ad 0 0)), (1, .int (x))] := hl
  have iRX7 : ∀ w ∈ wsX70, w ∈ wsX7_lineNumbered := by decide +kernel
  refine lv_iload_n hx hb dX7_lineNumbered_0 rfl (lv_at hl 1 rfl) ?_
  refine lv_if_lt (tgt := 15) hx hb dX7_lineNumbered_1 (by decide) (fun g1 => ?_) (fun g1 => ?_)
  · skip
    exact q_thrW hx hb hst (cls := "java/util/NoSuchElementException") (text := "there is no such line") hown (by decide) (hts (.classLink RX7 178 "java/util/NoSuchElementException") (List.mem_of_getElem? (i := 1) (by decide +kernel))) (hts (.initialized "java/util/NoSuchElementException") (List.mem_of_getElem? (i := 2) (by decide +kernel))) (hT _ (List.mem_of_getElem? (i := 17) rfl)) (fun w hw => hts w ((by decide +kernel : ∀ w ∈ (vx_atS RX7 182 "java/util/NoSuchElementException" qxn).filter goodWord, w ∈ wsX7_lineNumbered) w hw)) qxN_NSE qxG_NSE hC hZ hS hl.1 hml dX7_lineNumbered_15 dX7_lineNumbered_18 dX7_lineNumbered_19 dX7_lineNumbered_22 dX7_lineNumbered_25 htab (Nat.le_of_ble_eq_true rfl) (Nat.le_of_ble_eq_true rfl) (Nat.le_of_ble_eq_true rfl) (Nat.le_of_ble_eq_true rfl) hlocks
  · skip
    refine lv_iload_n hx hb dX7_lineNumbered_4 rfl (lv_at hl 1 rfl) ?_
    refine lv_aload_n hx hb dX7_lineNumbered_5 rfl (lv_at hl 0 rfl) ?_
    refine q_get (C := RX7) (T := TX7) (N := 7) hx hb hts iRX7 hown hC.1 (hW.to qLV0) rfl 0 (by decide) (hts (.fieldLink RX7 10 "LogWeave" "lineList" "Ljava/util/ArrayList;") (List.mem_of_getElem? (i := 3) (by decide +kernel))) rfl (v := .ref (ad 1 0)) rfl dX7_lineNumbered_6 ?_
    refine q_v (va_runV (As := []) (rest := [.int (x)]) ⟨hx, hb, hml, hown, hts⟩ (m_size l G (ad 1 0) _ _ (nI (σ 0 0))) (cwV 0 hts gX7_lineNumbered_Jx4a65c_size_8abf5 rfl rfl rfl (by decide +kernel) ⟨Nat.le_of_ble_eq_true rfl, Nat.le_of_ble_eq_true rfl⟩) ⟨qO.blind, qrecv hC (hW.to (qLV1 (j := 0) (by decide))) rfl, qO.pre hC (hW.lob (by decide))⟩ rfl rfl hl.1 rfl (lv_room (Nat.le_of_ble_eq_true rfl)) dX7_lineNumbered_9 ⟨Nat.le_of_ble_eq_true rfl, Nat.le_of_ble_eq_true rfl⟩) hS (fun _ h => h.elim) (fun locs hS => ?_)
    refine lv_icmp_lt (tgt := 26) hx hb dX7_lineNumbered_12 (by decide) (fun g2 => (absurd (q_rin g1 g2 (hB _ _)) hx0)) (fun g2 => ?_)
    exact q_thrW hx hb hst (cls := "java/util/NoSuchElementException") (text := "there is no such line") hown (by decide) (hts (.classLink RX7 178 "java/util/NoSuchElementException") (List.mem_of_getElem? (i := 1) (by decide +kernel))) (hts (.initialized "java/util/NoSuchElementException") (List.mem_of_getElem? (i := 2) (by decide +kernel))) (hT _ (List.mem_of_getElem? (i := 17) rfl)) (fun w hw => hts w ((by decide +kernel : ∀ w ∈ (vx_atS RX7 182 "java/util/NoSuchElementException" qxn).filter goodWord, w ∈ wsX7_lineNumbered) w hw)) qxN_NSE qxG_NSE hC hZ hS hl.1 hml dX7_lineNumbered_15 dX7_lineNumbered_18 dX7_lineNumbered_19 dX7_lineNumbered_22 dX7_lineNumbered_25 htab (Nat.le_of_ble_eq_true rfl) (Nat.le_of_ble_eq_true rfl) (Nat.le_of_ble_eq_true rfl) (Nat.le_of_ble_eq_true rfl) hlocks
set_option maxHeartbeats 4000000 in
set_option maxRecDepth 100000 in
theorem x_patternNumbered (l : Launch) (hst : l.stackTraces = false) (G : QG) (es : Nat) (A : Nat → Prop) (σ ad : QSt) (hF : qWF σ) (x : Int32) (hx0 : ¬ rIn x (σ 0 1)) : vx_Met l yX7_patternNumbered wsX7_patternNumbered ({ frames := 6, cells := 1, slots := 6, locals := 82 } : Room) (qX G es A σ ad [.ref (ad 0 0), .int (x)]) qNR (qXX "java/util/NoSuchElementException") 1 6 A := by
  refine vx_ofW (cc := cX7_patternNumbered) (maxL := 3) (ret := (some (.object "LogWeave$Pattern"))) (by decide) rfl ?_
  intro p e s m args below meth c s₁ B hml htab hv
  obtain ⟨rfl, hC, hW, hZ, hT⟩ := hv
  have hx := B.exec
  have hb := B.bytes
  have hts := atoms_spec (ws := wsX7_patternNumbered) B.pre
  have hown : s.vm.findClass RX7 = some m.cls := findClass_of_methodNamed B.named
  have hlocks := B.notSynchronized
  have hB := hF.1
  have hn := hF.n
  have hS : va_S A s.heap s.heap [] := va_S.rf
  have hl := lv_entry ([.ref (ad 0 0), .int (x)]) (n := 3) (Nat.le_of_ble_eq_true rfl)
  rw [lg_entry_eq]
  generalize (lg_sl ([.ref (ad 0 0), .int (x)]) ++ List.replicate (3 - (lg_sl ([.ref (ad 0 0), .int (x)])).length) Slot.unset).toArray = ls at hl ⊢
  have hl : lv_has ls 3 [(0, .ref (ad 0 0)), (1, .int (x))] := hl
  have iRX7 : ∀ w ∈ wsX70, w ∈ wsX7_patternNumbered := by decide +kernel
  refine lv_iload_n hx hb dX7_patternNumbered_0 rfl (lv_at hl 1 rfl) ?_
  refine lv_if_lt (tgt := 15) hx hb dX7_patternNumbered_1 (by decide) (fun g1 => ?_) (fun g1 => ?_)
  · skip
    exact q_thrW hx hb hst (cls := "java/util/NoSuchElementException") (text := "there is no such pattern") hown (by decide) (hts (.classLink RX7 178 "java/util/NoSuchElementException") (List.mem_of_getElem? (i := 1) (by decide +kernel))) (hts (.initialized "java/util/NoSuchElementException") (List.mem_of_getElem? (i := 2) (by decide +kernel))) (hT _ (List.mem_of_getElem? (i := 18) rfl)) (fun w hw => hts w ((by decide +kernel : ∀ w ∈ (vx_atS RX7 182 "java/util/NoSuchElementException" qxn).filter goodWord, w ∈ wsX7_patternNumbered) w hw)) qxN_NSE qxG_NSE hC hZ hS hl.1 hml dX7_patternNumbered_15 dX7_patternNumbered_18 dX7_patternNumbered_19 dX7_patternNumbered_22 dX7_patternNumbered_25 htab (Nat.le_of_ble_eq_true rfl) (Nat.le_of_ble_eq_true rfl) (Nat.le_of_ble_eq_true rfl) (Nat.le_of_ble_eq_true rfl) hlocks
  · skip
    refine lv_iload_n hx hb dX7_patternNumbered_4 rfl (lv_at hl 1 rfl) ?_
    refine lv_aload_n hx hb dX7_patternNumbered_5 rfl (lv_at hl 0 rfl) ?_
    refine q_get (C := RX7) (T := TX7) (N := 7) hx hb hts iRX7 hown hC.1 (hW.to qLV0) rfl 1 (by decide) (hts (.fieldLink RX7 16 "LogWeave" "patternList" "Ljava/util/ArrayList;") (List.mem_of_getElem? (i := 3) (by decide +kernel))) rfl (v := .ref (ad 1 1)) rfl dX7_patternNumbered_6 ?_
    refine q_v (va_runV (As := []) (rest := [.int (x)]) ⟨hx, hb, hml, hown, hts⟩ (m_size l G (ad 1 1) _ _ (nI (σ 0 1))) (cwV 0 hts gX7_patternNumbered_Jx4a65c_size_8abf5 rfl rfl rfl (by decide +kernel) ⟨Nat.le_of_ble_eq_true rfl, Nat.le_of_ble_eq_true rfl⟩) ⟨qO.blind, qrecv hC (hW.to (qLV1 (j := 1) (by decide))) rfl, qO.pre hC (hW.lob (by decide))⟩ rfl rfl hl.1 rfl (lv_room (Nat.le_of_ble_eq_true rfl)) dX7_patternNumbered_9 ⟨Nat.le_of_ble_eq_true rfl, Nat.le_of_ble_eq_true rfl⟩) hS (fun _ h => h.elim) (fun locs hS => ?_)
    refine lv_icmp_lt (tgt := 26) hx hb dX7_patternNumbered_12 (by decide) (fun g2 => (absurd (q_rin g1 g2 (hB _ _)) hx0)) (fun g2 => ?_)
    exact q_thrW hx hb hst (cls := "java/util/NoSuchElementException") (text := "there is no such pattern") hown (by decide) (hts (.classLink RX7 178 "java/util/NoSuchElementException") (List.mem_of_getElem? (i := 1) (by decide +kernel))) (hts (.initialized "java/util/NoSuchElementException") (List.mem_of_getElem? (i := 2) (by decide +kernel))) (hT _ (List.mem_of_getElem? (i := 18) rfl)) (fun w hw => hts w ((by decide +kernel : ∀ w ∈ (vx_atS RX7 182 "java/util/NoSuchElementException" qxn).filter goodWord, w ∈ wsX7_patternNumbered) w hw)) qxN_NSE qxG_NSE hC hZ hS hl.1 hml dX7_patternNumbered_15 dX7_patternNumbered_18 dX7_patternNumbered_19 dX7_patternNumbered_22 dX7_patternNumbered_25 htab (Nat.le_of_ble_eq_true rfl) (Nat.le_of_ble_eq_true rfl) (Nat.le_of_ble_eq_true rfl) (Nat.le_of_ble_eq_true rfl) hlocks
set_option maxHeartbeats 4000000 in
set_option maxRecDepth 100000 in
theorem x_alertNumbered (l : Launch) (hst : l.stackTraces = false) (G : QG) (es : Nat) (A : Nat → Prop) (σ ad : QSt) (hF : qWF σ) (x : Int32) (hx0 : ¬ rIn x (σ 0 2)) : vx_Met l yX7_alertNumbered wsX7_alertNumbered ({ frames := 6, cells := 1, slots := 6, locals := 82 } : Room) (qX G es A σ ad [.ref (ad 0 0), .int (x)]) qNR (qXX "java/lang/IndexOutOfBoundsException") 1 6 A := by
  refine vx_ofW (cc := cX7_alertNumbered) (maxL := 2) (ret := (some (.object "LogWeave$Alert"))) (by decide) rfl ?_
  intro p e s m args below meth c s₁ B hml htab hv
  obtain ⟨rfl, hC, hW, hZ, hT⟩ := hv
  have hx := B.exec
  have hb := B.bytes
  have hts := atoms_spec (ws := wsX7_alertNumbered) B.pre
  have hown : s.vm.findClass RX7 = some m.cls := findClass_of_methodNamed B.named
  have hlocks := B.notSynchronized
  have hB := hF.1
  have hn := hF.n
  have hS : va_S A s.heap s.heap [] := va_S.rf
  have hl := lv_entry ([.ref (ad 0 0), .int (x)]) (n := 2) (Nat.le_of_ble_eq_true rfl)
  rw [lg_entry_eq]
  generalize (lg_sl ([.ref (ad 0 0), .int (x)]) ++ List.replicate (2 - (lg_sl ([.ref (ad 0 0), .int (x)])).length) Slot.unset).toArray = ls at hl ⊢
  have hl : lv_has ls 2 [(0, .ref (ad 0 0)), (1, .int (x))] := hl
  have iRX7 : ∀ w ∈ wsX70, w ∈ wsX7_alertNumbered := by decide +kernel
  refine lv_iload_n hx hb dX7_alertNumbered_0 rfl (lv_at hl 1 rfl) ?_
  refine lv_if_lt (tgt := 15) hx hb dX7_alertNumbered_1 (by decide) (fun g1 => ?_) (fun g1 => ?_)
  · skip
    exact q_thrW hx hb hst (cls := "java/lang/IndexOutOfBoundsException") (text := "there is no such alert") hown (by decide) (hts (.classLink RX7 306 "java/lang/IndexOutOfBoundsException") (List.mem_of_getElem? (i := 1) (by decide +kernel))) (hts (.initialized "java/lang/IndexOutOfBoundsException") (List.mem_of_getElem? (i := 2) (by decide +kernel))) (hT _ (List.mem_of_getElem? (i := 20) rfl)) (fun w hw => hts w ((by decide +kernel : ∀ w ∈ (vx_atS RX7 310 "java/lang/IndexOutOfBoundsException" qxn).filter goodWord, w ∈ wsX7_alertNumbered) w hw)) qxN_IOB qxG_IOB hC hZ hS hl.1 hml dX7_alertNumbered_15 dX7_alertNumbered_18 dX7_alertNumbered_19 dX7_alertNumbered_22 dX7_alertNumbered_25 htab (Nat.le_of_ble_eq_true rfl) (Nat.le_of_ble_eq_true rfl) (Nat.le_of_ble_eq_true rfl) (Nat.le_of_ble_eq_true rfl) hlocks
  · skip
    refine lv_iload_n hx hb dX7_alertNumbered_4 rfl (lv_at hl 1 rfl) ?_
    refine lv_aload_n hx hb dX7_alertNumbered_5 rfl (lv_at hl 0 rfl) ?_
    refine q_get (C := RX7) (T := TX7) (N := 7) hx hb hts iRX7 hown hC.1 (hW.to qLV0) rfl 2 (by decide) (hts (.fieldLink RX7 19 "LogWeave" "alertList" "Ljava/util/ArrayList;") (List.mem_of_getElem? (i := 3) (by decide +kernel))) rfl (v := .ref (ad 1 2)) rfl dX7_alertNumbered_6 ?_
    refine q_v (va_runV (As := []) (rest := [.int (x)]) ⟨hx, hb, hml, hown, hts⟩ (m_size l G (ad 1 2) _ _ (nI (σ 0 2))) (cwV 0 hts gX7_alertNumbered_Jx4a65c_size_8abf5 rfl rfl rfl (by decide +kernel) ⟨Nat.le_of_ble_eq_true rfl, Nat.le_of_ble_eq_true rfl⟩) ⟨qO.blind, qrecv hC (hW.to (qLV1 (j := 2) (by decide))) rfl, qO.pre hC (hW.lob (by decide))⟩ rfl rfl hl.1 rfl (lv_room (Nat.le_of_ble_eq_true rfl)) dX7_alertNumbered_9 ⟨Nat.le_of_ble_eq_true rfl, Nat.le_of_ble_eq_true rfl⟩) hS (fun _ h => h.elim) (fun locs hS => ?_)
    refine lv_icmp_lt (tgt := 26) hx hb dX7_alertNumbered_12 (by decide) (fun g2 => (absurd (q_rin g1 g2 (hB _ _)) hx0)) (fun g2 => ?_)
    exact q_thrW hx hb hst (cls := "java/lang/IndexOutOfBoundsException") (text := "there is no such alert") hown (by decide) (hts (.classLink RX7 306 "java/lang/IndexOutOfBoundsException") (List.mem_of_getElem? (i := 1) (by decide +kernel))) (hts (.initialized "java/lang/IndexOutOfBoundsException") (List.mem_of_getElem? (i := 2) (by decide +kernel))) (hT _ (List.mem_of_getElem? (i := 20) rfl)) (fun w hw => hts w ((by decide +kernel : ∀ w ∈ (vx_atS RX7 310 "java/lang/IndexOutOfBoundsException" qxn).filter goodWord, w ∈ wsX7_alertNumbered) w hw)) qxN_IOB qxG_IOB hC hZ hS hl.1 hml dX7_alertNumbered_15 dX7_alertNumbered_18 dX7_alertNumbered_19 dX7_alertNumbered_22 dX7_alertNumbered_25 htab (Nat.le_of_ble_eq_true rfl) (Nat.le_of_ble_eq_true rfl) (Nat.le_of_ble_eq_true rfl) (Nat.le_of_ble_eq_true rfl) hlocks
set_option maxHeartbeats 4000000 in
set_option maxRecDepth 100000 in
theorem x_firingNumbered (l : Launch) (hst : l.stackTraces = false) (G : QG) (es : Nat) (A : Nat → Prop) (σ ad : QSt) (hF : qWF σ) (x : Int32) (hx0 : ¬ rIn x (σ 0 3)) : vx_Met l yX7_firingNumbered wsX7_firingNumbered ({ frames := 6, cells := 1, slots := 6, locals := 82 } : Room) (qX G es A σ ad [.ref (ad 0 0), .int (x)]) qNR (qXX "java/util/NoSuchElementException") 1 6 A := by
  refine vx_ofW (cc := cX7_firingNumbered) (maxL := 2) (ret := (some (.object "LogWeave$Firing"))) (by decide) rfl ?_
  intro p e s m args below meth c s₁ B hml htab hv
  obtain ⟨rfl, hC, hW, hZ, hT⟩ := hv
  have hx := B.exec
  have hb := B.bytes
  have hts := atoms_spec (ws := wsX7_firingNumbered) B.pre
  have hown : s.vm.findClass RX7 = some m.cls := findClass_of_methodNamed B.named
  have hlocks := B.notSynchronized
  have hB := hF.1
  have hn := hF.n
  have hS : va_S A s.heap s.heap [] := va_S.rf
  have hl := lv_entry ([.ref (ad 0 0), .int (x)]) (n := 2) (Nat.le_of_ble_eq_true rfl)
  rw [lg_entry_eq]
  generalize (lg_sl ([.ref (ad 0 0), .int (x)]) ++ List.replicate (2 - (lg_sl ([.ref (ad 0 0), .int (x)])).length) Slot.unset).toArray = ls at hl ⊢
  have hl : lv_has ls 2 [(0, .ref (ad 0 0)), (1, .int (x))] := hl
  have iRX7 : ∀ w ∈ wsX70, w ∈ wsX7_firingNumbered := by decide +kernel
  refine lv_iload_n hx hb dX7_firingNumbered_0 rfl (lv_at hl 1 rfl) ?_
  refine lv_if_lt (tgt := 15) hx hb dX7_firingNumbered_1 (by decide) (fun g1 => ?_) (fun g1 => ?_)
  · skip
    exact q_thrW hx hb hst (cls := "java/util/NoSuchElementException") (text := "there is no such firing") hown (by decide) (hts (.classLink RX7 178 "java/util/NoSuchElementException") (List.mem_of_getElem? (i := 1) (by decide +kernel))) (hts (.initialized "java/util/NoSuchElementException") (List.mem_of_getElem? (i := 2) (by decide +kernel))) (hT _ (List.mem_of_getElem? (i := 21) rfl)) (fun w hw => hts w ((by decide +kernel : ∀ w ∈ (vx_atS RX7 182 "java/util/NoSuchElementException" qxn).filter goodWord, w ∈ wsX7_firingNumbered) w hw)) qxN_NSE qxG_NSE hC hZ hS hl.1 hml dX7_firingNumbered_15 dX7_firingNumbered_18 dX7_firingNumbered_19 dX7_firingNumbered_22 dX7_firingNumbered_25 htab (Nat.le_of_ble_eq_true rfl) (Nat.le_of_ble_eq_true rfl) (Nat.le_of_ble_eq_true rfl) (Nat.le_of_ble_eq_true rfl) hlocks
  · skip
    refine lv_iload_n hx hb dX7_firingNumbered_4 rfl (lv_at hl 1 rfl) ?_
    refine lv_aload_n hx hb dX7_firingNumbered_5 rfl (lv_at hl 0 rfl) ?_
    refine q_get (C := RX7) (T := TX7) (N := 7) hx hb hts iRX7 hown hC.1 (hW.to qLV0) rfl 3 (by decide) (hts (.fieldLink RX7 22 "LogWeave" "firingList" "Ljava/util/ArrayList;") (List.mem_of_getElem? (i := 3) (by decide +kernel))) rfl (v := .ref (ad 1 3)) rfl dX7_firingNumbered_6 ?_
    refine q_v (va_runV (As := []) (rest := [.int (x)]) ⟨hx, hb, hml, hown, hts⟩ (m_size l G (ad 1 3) _ _ (nI (σ 0 3))) (cwV 0 hts gX7_firingNumbered_Jx4a65c_size_8abf5 rfl rfl rfl (by decide +kernel) ⟨Nat.le_of_ble_eq_true rfl, Nat.le_of_ble_eq_true rfl⟩) ⟨qO.blind, qrecv hC (hW.to (qLV1 (j := 3) (by decide))) rfl, qO.pre hC (hW.lob (by decide))⟩ rfl rfl hl.1 rfl (lv_room (Nat.le_of_ble_eq_true rfl)) dX7_firingNumbered_9 ⟨Nat.le_of_ble_eq_true rfl, Nat.le_of_ble_eq_true rfl⟩) hS (fun _ h => h.elim) (fun locs hS => ?_)
    refine lv_icmp_lt (tgt := 26) hx hb dX7_firingNumbered_12 (by decide) (fun g2 => (absurd (q_rin g1 g2 (hB _ _)) hx0)) (fun g2 => ?_)
    exact q_thrW hx hb hst (cls := "java/util/NoSuchElementException") (text := "there is no such firing") hown (by decide) (hts (.classLink RX7 178 "java/util/NoSuchElementException") (List.mem_of_getElem? (i := 1) (by decide +kernel))) (hts (.initialized "java/util/NoSuchElementException") (List.mem_of_getElem? (i := 2) (by decide +kernel))) (hT _ (List.mem_of_getElem? (i := 21) rfl)) (fun w hw => hts w ((by decide +kernel : ∀ w ∈ (vx_atS RX7 182 "java/util/NoSuchElementException" qxn).filter goodWord, w ∈ wsX7_firingNumbered) w hw)) qxN_NSE qxG_NSE hC hZ hS hl.1 hml dX7_firingNumbered_15 dX7_firingNumbered_18 dX7_firingNumbered_19 dX7_firingNumbered_22 dX7_firingNumbered_25 htab (Nat.le_of_ble_eq_true rfl) (Nat.le_of_ble_eq_true rfl) (Nat.le_of_ble_eq_true rfl) (Nat.le_of_ble_eq_true rfl) hlocks
set_option maxHeartbeats 4000000 in
set_option maxRecDepth 100000 in
theorem x_patternNumberedM (l : Launch) (hst : l.stackTraces = false) (G : QG) (es : Nat) (A : Nat → Prop) (σ ad : QSt) (hF : qWF σ) (i : Nat) (hi : i < σ 0 1) (hm : σ 97 i ≠ 0) : vx_Met l yX7_patternNumbered wsX7_patternNumbered ({ frames := 6, cells := 1, slots := 6, locals := 82 } : Room) (qX G es A σ ad [.ref (ad 0 0), .int (nI i)]) qNR (qXX "java/util/NoSuchElementException") 1 6 A := by
  refine vx_ofW (cc := cX7_patternNumbered) (maxL := 3) (ret := (some (.object "LogWeave$Pattern"))) (by decide) rfl ?_
  intro p e s m args below meth c s₁ B hml htab hv
  obtain ⟨rfl, hC, hW, hZ, hT⟩ := hv
  have hx := B.exec
  have hb := B.bytes
  have hts := atoms_spec (ws := wsX7_patternNumbered) B.pre
  have hown : s.vm.findClass RX7 = some m.cls := findClass_of_methodNamed B.named
  have hlocks := B.notSynchronized
  have hB := hF.1
  have hn := hF.n
  have hS : va_S A s.heap s.heap [] := va_S.rf
  have hl := lv_entry ([.ref (ad 0 0), .int (nI i)]) (n := 3) (Nat.le_of_ble_eq_true rfl)
  rw [lg_entry_eq]
  generalize (lg_sl ([.ref (ad 0 0), .int (nI i)]) ++ List.replicate (3 - (lg_sl ([.ref (ad 0 0), .int (nI i)])).length) Slot.unset).toArray = ls at hl ⊢
  have hl : lv_has ls 3 [(0, .ref (ad 0 0)), (1, .int (nI i))] := hl
  have iRX7 : ∀ w ∈ wsX70, w ∈ wsX7_patternNumbered := by decide +kernel
  have iRX4 : ∀ w ∈ wsX40, w ∈ wsX7_patternNumbered := by decide +kernel
  refine lv_iload_n hx hb dX7_patternNumbered_0 rfl (lv_at hl 1 rfl) ?_
  refine q_lt0 (tgt := 15) hx hb (by omega) dX7_patternNumbered_1 (by decide) (fun g1 => g1.elim) (fun g1 => ?_)
  refine lv_iload_n hx hb dX7_patternNumbered_4 rfl (lv_at hl 1 rfl) ?_
  refine lv_aload_n hx hb dX7_patternNumbered_5 rfl (lv_at hl 0 rfl) ?_
  refine q_get (C := RX7) (T := TX7) (N := 7) hx hb hts iRX7 hown hC.1 (hW.to qLV0) rfl 1 (by decide) (hts (.fieldLink RX7 16 "LogWeave" "patternList" "Ljava/util/ArrayList;") (List.mem_of_getElem? (i := 3) (by decide +kernel))) rfl (v := .ref (ad 1 1)) rfl dX7_patternNumbered_6 ?_
  refine q_v (va_runV (As := []) (rest := [.int (nI i)]) ⟨hx, hb, hml, hown, hts⟩ (m_size l G (ad 1 1) _ _ (nI (σ 0 1))) (cwV 0 hts gX7_patternNumbered_Jx4a65c_size_8abf5 rfl rfl rfl (by decide +kernel) ⟨Nat.le_of_ble_eq_true rfl, Nat.le_of_ble_eq_true rfl⟩) ⟨qO.blind, qrecv hC (hW.to (qLV1 (j := 1) (by decide))) rfl, qO.pre hC (hW.lob (by decide))⟩ rfl rfl hl.1 rfl (lv_room (Nat.le_of_ble_eq_true rfl)) dX7_patternNumbered_9 ⟨Nat.le_of_ble_eq_true rfl, Nat.le_of_ble_eq_true rfl⟩) hS (fun _ h => h.elim) (fun locs hS => ?_)
  refine q_lt (tgt := 26) hx hb (by omega) (q31 (hB _ _)) dX7_patternNumbered_12 (by decide) (fun g2 => ?_) (fun g2 => (by omega))
  refine lv_aload_n hx hb dX7_patternNumbered_26 rfl (lv_at hl 0 rfl) ?_
  refine q_get (C := RX7) (T := TX7) (N := 7) hx hb hts iRX7 hown hC.1 (hW.to qLV0) rfl 1 (by decide) (hts (.fieldLink RX7 16 "LogWeave" "patternList" "Ljava/util/ArrayList;") (List.mem_of_getElem? (i := 3) (by decide +kernel))) rfl (v := .ref (ad 1 1)) rfl dX7_patternNumbered_27 ?_
  refine lv_iload_n hx hb dX7_patternNumbered_30 rfl (lv_at hl 1 rfl) ?_
  refine q_v (va_runV (As := [.int (nI i)]) (rest := []) ⟨hx, hb, hml, hown, hts⟩ (m_get l G (ad 1 1) (ad 2 1) (σ 32 1) (σ 0 1) (fun i => if i < σ 0 1 then some (ad (4 + 2 * 1) i) else none) (.int (nI (σ 16 1))) i (ad 6 i) hi (hF.c 1) (hB _ _) (if_pos hi)) (cwV 1 hts gX7_patternNumbered_Jx4a65c_get_915e3 rfl rfl rfl (by decide +kernel) ⟨Nat.le_of_ble_eq_true rfl, Nat.le_of_ble_eq_true rfl⟩) ⟨qO.blind, qrecv hC (hW.to (qLV1 (j := 1) (by decide))) rfl, qO.pre hC (hW.list hF (J := 1) (by decide) hi)⟩ rfl rfl hl.1 rfl (lv_room (Nat.le_of_ble_eq_true rfl)) dX7_patternNumbered_31 ⟨Nat.le_of_ble_eq_true rfl, Nat.le_of_ble_eq_true rfl⟩) hS (fun _ h => h.elim) (fun locs hS => ?_)
  refine va_castS hx hb hown (hts (.classLink RX7 112 "LogWeave$Pattern") (List.mem_of_getElem? (i := 4) (by decide +kernel))) (hC.1.1 7 _ rfl).2 (qrecv hC (hW.to (qLV6 hi)) rfl) dX7_patternNumbered_34 ?_
  refine lv_astore_n (lv' := [(2, .ref (ad 6 i)), (0, .ref (ad 0 0)), (1, .int (nI i))]) hx hb dX7_patternNumbered_37 rfl hl (by decide) rfl (fun ls hl => ?_)
  refine lv_aload_n hx hb dX7_patternNumbered_38 rfl (lv_at hl 0 rfl) ?_
  refine q_getN (C := RX4) (T := TX4) (N := 4) hx hb hts iRX4 hown hC.1 (hW.to (qLV6 hi)) rfl 3 (by decide) (va_Nw.use rfl (qf_RX7_127 hC)) rfl (v := .int (nI (σ 97 i))) rfl dX7_patternNumbered_39 ?_
  refine q_eq0 (tgt := 56) hx hb (q31 (hB _ _)) dX7_patternNumbered_42 (by decide) (fun g3 => absurd g3 hm) (fun g3 => ?_)
  exact q_thrW hx hb hst (cls := "java/util/NoSuchElementException") (text := "the pattern was merged into another one") hown (by decide) (hts (.classLink RX7 178 "java/util/NoSuchElementException") (List.mem_of_getElem? (i := 1) (by decide +kernel))) (hts (.initialized "java/util/NoSuchElementException") (List.mem_of_getElem? (i := 2) (by decide +kernel))) (hT _ (List.mem_of_getElem? (i := 19) rfl)) (fun w hw => hts w ((by decide +kernel : ∀ w ∈ (vx_atS RX7 182 "java/util/NoSuchElementException" qxn).filter goodWord, w ∈ wsX7_patternNumbered) w hw)) qxN_NSE qxG_NSE hC hZ hS hl.1 hml dX7_patternNumbered_45 dX7_patternNumbered_48 dX7_patternNumbered_49 dX7_patternNumbered_52 dX7_patternNumbered_55 htab (Nat.le_of_ble_eq_true rfl) (Nat.le_of_ble_eq_true rfl) (Nat.le_of_ble_eq_true rfl) (Nat.le_of_ble_eq_true rfl) hlocks
set_option maxHeartbeats 4000000 in
set_option maxRecDepth 100000 in
theorem x_checkSource (l : Launch) (hst : l.stackTraces = false) (G : QG) (es : Nat) (A : Nat → Prop) (σ ad : QSt) (hF : qWF σ) (x : Int32) (hbad : ¬ (nI 0 ≤ x ∧ x ≤ nI 3)) : vx_Met l yX7_checkSource wsX7_checkSource ({ frames := 6, cells := 1, slots := 6, locals := 82 } : Room) (qX G es A σ ad [.int (x)]) qNR (qXX "java/lang/IllegalArgumentException") 1 6 A := by
  refine vx_ofW (cc := cX7_checkSource) (maxL := 1) (ret := none) (by decide) rfl ?_
  intro p e s m args below meth c s₁ B hml htab hv
  obtain ⟨rfl, hC, hW, hZ, hT⟩ := hv
  have hx := B.exec
  have hb := B.bytes
  have hts := atoms_spec (ws := wsX7_checkSource) B.pre
  have hown : s.vm.findClass RX7 = some m.cls := findClass_of_methodNamed B.named
  have hlocks := B.notSynchronized
  have hB := hF.1
  have hn := hF.n
  have hS : va_S A s.heap s.heap [] := va_S.rf
  have hl := lv_entry ([.int (x)]) (n := 1) (Nat.le_of_ble_eq_true rfl)
  rw [lg_entry_eq]
  generalize (lg_sl ([.int (x)]) ++ List.replicate (1 - (lg_sl ([.int (x)])).length) Slot.unset).toArray = ls at hl ⊢
  have hl : lv_has ls 1 [(0, .int (x))] := hl
  refine lv_iload_n hx hb dX7_checkSource_0 rfl (lv_at hl 0 rfl) ?_
  refine q_v (va_runS (As := [.int (x)]) (rest := []) ⟨hx, hb, hml, hown, hts⟩ (m_isSource l x) (va_cwS 1 hts gX7_checkSource_X7_isSource rfl rfl rfl (by decide +kernel) ⟨Nat.le_of_ble_eq_true rfl, Nat.le_of_ble_eq_true rfl⟩) ⟨qU.blind, qU.pre⟩ rfl rfl hl.1 rfl (lv_room (Nat.le_of_ble_eq_true rfl)) dX7_checkSource_1 ⟨Nat.le_of_ble_eq_true rfl, Nat.le_of_ble_eq_true rfl⟩) hS (fun _ h => h.elim) (fun locs hS => ?_)
  refine q_ti (y := nI 0) (by rw [qB_f hbad]) ?_
  refine q_ne0 (tgt := 18) hx hb (by decide) dX7_checkSource_4 (by decide) (fun g1 => absurd g1 (by decide)) (fun g1 => ?_)
  exact q_thrW hx hb hst (cls := "java/lang/IllegalArgumentException") (text := "the source is out of range") hown (by decide) (hts (.classLink RX7 46 "java/lang/IllegalArgumentException") (List.mem_of_getElem? (i := 1) (by decide +kernel))) (hts (.initialized "java/lang/IllegalArgumentException") (List.mem_of_getElem? (i := 2) (by decide +kernel))) (hT _ (List.mem_of_getElem? (i := 15) rfl)) (fun w hw => hts w ((by decide +kernel : ∀ w ∈ (vx_atS RX7 50 "java/lang/IllegalArgumentException" qxn).filter goodWord, w ∈ wsX7_checkSource) w hw)) qxN_IAE qxG_IAE hC hZ hS hl.1 hml dX7_checkSource_7 dX7_checkSource_10 dX7_checkSource_11 dX7_checkSource_14 dX7_checkSource_17 htab (Nat.le_of_ble_eq_true rfl) (Nat.le_of_ble_eq_true rfl) (Nat.le_of_ble_eq_true rfl) (Nat.le_of_ble_eq_true rfl) hlocks
set_option maxHeartbeats 4000000 in
set_option maxRecDepth 100000 in
theorem x_checkPlace (l : Launch) (hst : l.stackTraces = false) (G : QG) (es : Nat) (A : Nat → Prop) (σ ad : QSt) (hF : qWF σ) (x : Int32) (hbad : ¬ (nI 0 ≤ x ∧ x ≤ nI 2)) : vx_Met l yX7_checkPlace wsX7_checkPlace ({ frames := 6, cells := 1, slots := 6, locals := 82 } : Room) (qX G es A σ ad [.int (x)]) qNR (qXX "java/lang/IllegalArgumentException") 1 6 A := by
  refine vx_ofW (cc := cX7_checkPlace) (maxL := 1) (ret := none) (by decide) rfl ?_
  intro p e s m args below meth c s₁ B hml htab hv
  obtain ⟨rfl, hC, hW, hZ, hT⟩ := hv
  have hx := B.exec
  have hb := B.bytes
  have hts := atoms_spec (ws := wsX7_checkPlace) B.pre
  have hown : s.vm.findClass RX7 = some m.cls := findClass_of_methodNamed B.named
  have hlocks := B.notSynchronized
  have hB := hF.1
  have hn := hF.n
  have hS : va_S A s.heap s.heap [] := va_S.rf
  have hl := lv_entry ([.int (x)]) (n := 1) (Nat.le_of_ble_eq_true rfl)
  rw [lg_entry_eq]
  generalize (lg_sl ([.int (x)]) ++ List.replicate (1 - (lg_sl ([.int (x)])).length) Slot.unset).toArray = ls at hl ⊢
  have hl : lv_has ls 1 [(0, .int (x))] := hl
  refine lv_iload_n hx hb dX7_checkPlace_0 rfl (lv_at hl 0 rfl) ?_
  refine lv_iconst (v := nI 0) hx hb dX7_checkPlace_1 (by decide) ?_
  refine lv_iconst (v := nI 2) hx hb dX7_checkPlace_2 (by decide) ?_
  refine q_v (va_runS (As := [.int (x), .int (nI 0), .int (nI 2)]) (rest := []) ⟨hx, hb, hml, hown, hts⟩ (m_isWithin l x (nI 0) (nI 2)) (va_cwS 3 hts gX7_checkPlace_X7_isWithin rfl rfl rfl (by decide +kernel) ⟨Nat.le_of_ble_eq_true rfl, Nat.le_of_ble_eq_true rfl⟩) ⟨qU.blind, qU.pre⟩ rfl rfl hl.1 rfl (lv_room (Nat.le_of_ble_eq_true rfl)) dX7_checkPlace_3 ⟨Nat.le_of_ble_eq_true rfl, Nat.le_of_ble_eq_true rfl⟩) hS (fun _ h => h.elim) (fun locs hS => ?_)
  refine q_ti (y := nI 0) (by rw [qB_f hbad]) ?_
  refine q_ne0 (tgt := 20) hx hb (by decide) dX7_checkPlace_6 (by decide) (fun g1 => absurd g1 (by decide)) (fun g1 => ?_)
  exact q_thrW hx hb hst (cls := "java/lang/IllegalArgumentException") (text := "the place is out of range") hown (by decide) (hts (.classLink RX7 46 "java/lang/IllegalArgumentException") (List.mem_of_getElem? (i := 1) (by decide +kernel))) (hts (.initialized "java/lang/IllegalArgumentException") (List.mem_of_getElem? (i := 2) (by decide +kernel))) (hT _ (List.mem_of_getElem? (i := 16) rfl)) (fun w hw => hts w ((by decide +kernel : ∀ w ∈ (vx_atS RX7 50 "java/lang/IllegalArgumentException" qxn).filter goodWord, w ∈ wsX7_checkPlace) w hw)) qxN_IAE qxG_IAE hC hZ hS hl.1 hml dX7_checkPlace_9 dX7_checkPlace_12 dX7_checkPlace_13 dX7_checkPlace_16 dX7_checkPlace_19 htab (Nat.le_of_ble_eq_true rfl) (Nat.le_of_ble_eq_true rfl) (Nat.le_of_ble_eq_true rfl) (Nat.le_of_ble_eq_true rfl) hlocks
set_option maxHeartbeats 4000000 in
set_option maxRecDepth 100000 in
theorem x_stateOf1 (l : Launch) (hst : l.stackTraces = false) (G : QG) (es : Nat) (A : Nat → Prop) (σ ad : QSt) (hF : qWF σ) (x : Int32) (hx0 : ¬ rIn x (σ 0 0)) : vx_Met l yX7_stateOf wsX7_stateOf ({ frames := 7, cells := 1, slots := 6, locals := 103 } : Room) (qX G es A σ ad [.ref (ad 0 0), .int (x)]) qNR (qXX "java/util/NoSuchElementException") 1 6 A := by
  refine vx_ofW (cc := cX7_stateOf) (maxL := 2) (ret := (some .char)) (by decide) rfl ?_
  intro p e s m args below meth c s₁ B hml htab hv
  obtain ⟨rfl, hC, hW, hZ, hT⟩ := hv
  have hx := B.exec
  have hb := B.bytes
  have hts := atoms_spec (ws := wsX7_stateOf) B.pre
  have hown : s.vm.findClass RX7 = some m.cls := findClass_of_methodNamed B.named
  have hlocks := B.notSynchronized
  have hB := hF.1
  have hn := hF.n
  have hS : va_S A s.heap s.heap [] := va_S.rf
  have hl := lv_entry ([.ref (ad 0 0), .int (x)]) (n := 2) (Nat.le_of_ble_eq_true rfl)
  rw [lg_entry_eq]
  generalize (lg_sl ([.ref (ad 0 0), .int (x)]) ++ List.replicate (2 - (lg_sl ([.ref (ad 0 0), .int (x)])).length) Slot.unset).toArray = ls at hl ⊢
  have hl : lv_has ls 2 [(0, .ref (ad 0 0)), (1, .int (x))] := hl
  refine lv_aload_n hx hb dX7_stateOf_0 rfl (lv_at hl 0 rfl) ?_
  refine lv_iload_n hx hb dX7_stateOf_1 rfl (lv_at hl 1 rfl) ?_
  exact q_xo (vx_runV (As := [.int (x)]) (rest := []) ⟨hx, hb, hml, hown, hts⟩ (x_lineNumbered l hst G es A σ ad hF x hx0) (cwV 1 hts gX7_stateOf_X7_lineNumbered rfl rfl rfl (by decide +kernel) ⟨Nat.le_of_ble_eq_true rfl, Nat.le_of_ble_eq_true rfl⟩) ⟨qX.blind, qrecv hC (hW.to qLV0) rfl, qX.pre hC hW hZ hT⟩ rfl rfl hl.1 rfl (lv_room (Nat.le_of_ble_eq_true rfl)) dX7_stateOf_2 ⟨Nat.le_of_ble_eq_true rfl, Nat.le_of_ble_eq_true rfl⟩) hS (fun _ h => h) htab hlocks
set_option maxHeartbeats 4000000 in
set_option maxRecDepth 100000 in
theorem x_patternOf1 (l : Launch) (hst : l.stackTraces = false) (G : QG) (es : Nat) (A : Nat → Prop) (σ ad : QSt) (hF : qWF σ) (x : Int32) (hx0 : ¬ rIn x (σ 0 0)) : vx_Met l yX7_patternOf wsX7_patternOf ({ frames := 7, cells := 1, slots := 6, locals := 103 } : Room) (qX G es A σ ad [.ref (ad 0 0), .int (x)]) qNR (qXX "java/util/NoSuchElementException") 1 6 A := by
  refine vx_ofW (cc := cX7_patternOf) (maxL := 2) (ret := (some .int)) (by decide) rfl ?_
  intro p e s m args below meth c s₁ B hml htab hv
  obtain ⟨rfl, hC, hW, hZ, hT⟩ := hv
  have hx := B.exec
  have hb := B.bytes
  have hts := atoms_spec (ws := wsX7_patternOf) B.pre
  have hown : s.vm.findClass RX7 = some m.cls := findClass_of_methodNamed B.named
  have hlocks := B.notSynchronized
  have hB := hF.1
  have hn := hF.n
  have hS : va_S A s.heap s.heap [] := va_S.rf
  have hl := lv_entry ([.ref (ad 0 0), .int (x)]) (n := 2) (Nat.le_of_ble_eq_true rfl)
  rw [lg_entry_eq]
  generalize (lg_sl ([.ref (ad 0 0), .int (x)]) ++ List.replicate (2 - (lg_sl ([.ref (ad 0 0), .int (x)])).length) Slot.unset).toArray = ls at hl ⊢
  have hl : lv_has ls 2 [(0, .ref (ad 0 0)), (1, .int (x))] := hl
  refine lv_aload_n hx hb dX7_patternOf_0 rfl (lv_at hl 0 rfl) ?_
  refine lv_iload_n hx hb dX7_patternOf_1 rfl (lv_at hl 1 rfl) ?_
  exact q_xo (vx_runV (As := [.int (x)]) (rest := []) ⟨hx, hb, hml, hown, hts⟩ (x_lineNumbered l hst G es A σ ad hF x hx0) (cwV 1 hts gX7_patternOf_X7_lineNumbered rfl rfl rfl (by decide +kernel) ⟨Nat.le_of_ble_eq_true rfl, Nat.le_of_ble_eq_true rfl⟩) ⟨qX.blind, qrecv hC (hW.to qLV0) rfl, qX.pre hC hW hZ hT⟩ rfl rfl hl.1 rfl (lv_room (Nat.le_of_ble_eq_true rfl)) dX7_patternOf_2 ⟨Nat.le_of_ble_eq_true rfl, Nat.le_of_ble_eq_true rfl⟩) hS (fun _ h => h) htab hlocks
set_option maxHeartbeats 4000000 in
set_option maxRecDepth 100000 in
theorem x_archive1 (l : Launch) (hst : l.stackTraces = false) (G : QG) (es : Nat) (A : Nat → Prop) (σ ad : QSt) (hF : qWF σ) (x : Int32) (hx0 : ¬ rIn x (σ 0 0)) : vx_Met l yX7_archive wsX7_archive ({ frames := 7, cells := 1, slots := 6, locals := 103 } : Room) (qX G es A σ ad [.ref (ad 0 0), .int (x)]) qNR (qXX "java/util/NoSuchElementException") 1 6 A := by
  refine vx_ofW (cc := cX7_archive) (maxL := 3) (ret := (some .int)) (by decide) rfl ?_
  intro p e s m args below meth c s₁ B hml htab hv
  obtain ⟨rfl, hC, hW, hZ, hT⟩ := hv
  have hx := B.exec
  have hb := B.bytes
  have hts := atoms_spec (ws := wsX7_archive) B.pre
  have hown : s.vm.findClass RX7 = some m.cls := findClass_of_methodNamed B.named
  have hlocks := B.notSynchronized
  have hB := hF.1
  have hn := hF.n
  have hS : va_S A s.heap s.heap [] := va_S.rf
  have hl := lv_entry ([.ref (ad 0 0), .int (x)]) (n := 3) (Nat.le_of_ble_eq_true rfl)
  rw [lg_entry_eq]
  generalize (lg_sl ([.ref (ad 0 0), .int (x)]) ++ List.replicate (3 - (lg_sl ([.ref (ad 0 0), .int (x)])).length) Slot.unset).toArray = ls at hl ⊢
  have hl : lv_has ls 3 [(0, .ref (ad 0 0)), (1, .int (x))] := hl
  refine lv_aload_n hx hb dX7_archive_0 rfl (lv_at hl 0 rfl) ?_
  refine lv_iload_n hx hb dX7_archive_1 rfl (lv_at hl 1 rfl) ?_
  exact q_xo (vx_runV (As := [.int (x)]) (rest := []) ⟨hx, hb, hml, hown, hts⟩ (x_lineNumbered l hst G es A σ ad hF x hx0) (cwV 1 hts gX7_archive_X7_lineNumbered rfl rfl rfl (by decide +kernel) ⟨Nat.le_of_ble_eq_true rfl, Nat.le_of_ble_eq_true rfl⟩) ⟨qX.blind, qrecv hC (hW.to qLV0) rfl, qX.pre hC hW hZ hT⟩ rfl rfl hl.1 rfl (lv_room (Nat.le_of_ble_eq_true rfl)) dX7_archive_2 ⟨Nat.le_of_ble_eq_true rfl, Nat.le_of_ble_eq_true rfl⟩) hS (fun _ h => h) htab hlocks
set_option maxHeartbeats 4000000 in
set_option maxRecDepth 100000 in
theorem x_isGuarded1 (l : Launch) (hst : l.stackTraces = false) (G : QG) (es : Nat) (A : Nat → Prop) (σ ad : QSt) (hF : qWF σ) (x : Int32) (hx0 : ¬ rIn x (σ 0 0)) : vx_Met l yX7_isGuarded wsX7_isGuarded ({ frames := 7, cells := 1, slots := 6, locals := 103 } : Room) (qX G es A σ ad [.ref (ad 0 0), .int (x)]) qNR (qXX "java/util/NoSuchElementException") 1 6 A := by
  refine vx_ofW (cc := cX7_isGuarded) (maxL := 2) (ret := (some .boolean)) (by decide) rfl ?_
  intro p e s m args below meth c s₁ B hml htab hv
  obtain ⟨rfl, hC, hW, hZ, hT⟩ := hv
  have hx := B.exec
  have hb := B.bytes
  have hts := atoms_spec (ws := wsX7_isGuarded) B.pre
  have hown : s.vm.findClass RX7 = some m.cls := findClass_of_methodNamed B.named
  have hlocks := B.notSynchronized
  have hB := hF.1
  have hn := hF.n
  have hS : va_S A s.heap s.heap [] := va_S.rf
  have hl := lv_entry ([.ref (ad 0 0), .int (x)]) (n := 2) (Nat.le_of_ble_eq_true rfl)
  rw [lg_entry_eq]
  generalize (lg_sl ([.ref (ad 0 0), .int (x)]) ++ List.replicate (2 - (lg_sl ([.ref (ad 0 0), .int (x)])).length) Slot.unset).toArray = ls at hl ⊢
  have hl : lv_has ls 2 [(0, .ref (ad 0 0)), (1, .int (x))] := hl
  refine lv_aload_n hx hb dX7_isGuarded_0 rfl (lv_at hl 0 rfl) ?_
  refine lv_iload_n hx hb dX7_isGuarded_1 rfl (lv_at hl 1 rfl) ?_
  exact q_xo (vx_runV (As := [.int (x)]) (rest := []) ⟨hx, hb, hml, hown, hts⟩ (x_lineNumbered l hst G es A σ ad hF x hx0) (cwV 1 hts gX7_isGuarded_X7_lineNumbered rfl rfl rfl (by decide +kernel) ⟨Nat.le_of_ble_eq_true rfl, Nat.le_of_ble_eq_true rfl⟩) ⟨qX.blind, qrecv hC (hW.to qLV0) rfl, qX.pre hC hW hZ hT⟩ rfl rfl hl.1 rfl (lv_room (Nat.le_of_ble_eq_true rfl)) dX7_isGuarded_2 ⟨Nat.le_of_ble_eq_true rfl, Nat.le_of_ble_eq_true rfl⟩) hS (fun _ h => h) htab hlocks
set_option maxHeartbeats 4000000 in
set_option maxRecDepth 100000 in
theorem x_alertState1 (l : Launch) (hst : l.stackTraces = false) (G : QG) (es : Nat) (A : Nat → Prop) (σ ad : QSt) (hF : qWF σ) (x : Int32) (hx0 : ¬ rIn x (σ 0 2)) : vx_Met l yX7_alertState wsX7_alertState ({ frames := 7, cells := 1, slots := 6, locals := 103 } : Room) (qX G es A σ ad [.ref (ad 0 0), .int (x)]) qNR (qXX "java/lang/IndexOutOfBoundsException") 1 6 A := by
  refine vx_ofW (cc := cX7_alertState) (maxL := 2) (ret := (some .char)) (by decide) rfl ?_
  intro p e s m args below meth c s₁ B hml htab hv
  obtain ⟨rfl, hC, hW, hZ, hT⟩ := hv
  have hx := B.exec
  have hb := B.bytes
  have hts := atoms_spec (ws := wsX7_alertState) B.pre
  have hown : s.vm.findClass RX7 = some m.cls := findClass_of_methodNamed B.named
  have hlocks := B.notSynchronized
  have hB := hF.1
  have hn := hF.n
  have hS : va_S A s.heap s.heap [] := va_S.rf
  have hl := lv_entry ([.ref (ad 0 0), .int (x)]) (n := 2) (Nat.le_of_ble_eq_true rfl)
  rw [lg_entry_eq]
  generalize (lg_sl ([.ref (ad 0 0), .int (x)]) ++ List.replicate (2 - (lg_sl ([.ref (ad 0 0), .int (x)])).length) Slot.unset).toArray = ls at hl ⊢
  have hl : lv_has ls 2 [(0, .ref (ad 0 0)), (1, .int (x))] := hl
  refine lv_aload_n hx hb dX7_alertState_0 rfl (lv_at hl 0 rfl) ?_
  refine lv_iload_n hx hb dX7_alertState_1 rfl (lv_at hl 1 rfl) ?_
  exact q_xo (vx_runV (As := [.int (x)]) (rest := []) ⟨hx, hb, hml, hown, hts⟩ (x_alertNumbered l hst G es A σ ad hF x hx0) (cwV 1 hts gX7_alertState_X7_alertNumbered rfl rfl rfl (by decide +kernel) ⟨Nat.le_of_ble_eq_true rfl, Nat.le_of_ble_eq_true rfl⟩) ⟨qX.blind, qrecv hC (hW.to qLV0) rfl, qX.pre hC hW hZ hT⟩ rfl rfl hl.1 rfl (lv_room (Nat.le_of_ble_eq_true rfl)) dX7_alertState_2 ⟨Nat.le_of_ble_eq_true rfl, Nat.le_of_ble_eq_true rfl⟩) hS (fun _ h => h) htab hlocks
set_option maxHeartbeats 4000000 in
set_option maxRecDepth 100000 in
theorem x_counted1 (l : Launch) (hst : l.stackTraces = false) (G : QG) (es : Nat) (A : Nat → Prop) (σ ad : QSt) (hF : qWF σ) (x : Int32) (hx0 : ¬ rIn x (σ 0 2)) : vx_Met l yX7_counted wsX7_counted ({ frames := 7, cells := 1, slots := 6, locals := 103 } : Room) (qX G es A σ ad [.ref (ad 0 0), .int (x)]) qNR (qXX "java/lang/IndexOutOfBoundsException") 1 6 A := by
  refine vx_ofW (cc := cX7_counted) (maxL := 2) (ret := (some .int)) (by decide) rfl ?_
  intro p e s m args below meth c s₁ B hml htab hv
  obtain ⟨rfl, hC, hW, hZ, hT⟩ := hv
  have hx := B.exec
  have hb := B.bytes
  have hts := atoms_spec (ws := wsX7_counted) B.pre
  have hown : s.vm.findClass RX7 = some m.cls := findClass_of_methodNamed B.named
  have hlocks := B.notSynchronized
  have hB := hF.1
  have hn := hF.n
  have hS : va_S A s.heap s.heap [] := va_S.rf
  have hl := lv_entry ([.ref (ad 0 0), .int (x)]) (n := 2) (Nat.le_of_ble_eq_true rfl)
  rw [lg_entry_eq]
  generalize (lg_sl ([.ref (ad 0 0), .int (x)]) ++ List.replicate (2 - (lg_sl ([.ref (ad 0 0), .int (x)])).length) Slot.unset).toArray = ls at hl ⊢
  have hl : lv_has ls 2 [(0, .ref (ad 0 0)), (1, .int (x))] := hl
  refine lv_aload_n hx hb dX7_counted_0 rfl (lv_at hl 0 rfl) ?_
  refine lv_iload_n hx hb dX7_counted_1 rfl (lv_at hl 1 rfl) ?_
  exact q_xo (vx_runV (As := [.int (x)]) (rest := []) ⟨hx, hb, hml, hown, hts⟩ (x_alertNumbered l hst G es A σ ad hF x hx0) (cwV 1 hts gX7_counted_X7_alertNumbered rfl rfl rfl (by decide +kernel) ⟨Nat.le_of_ble_eq_true rfl, Nat.le_of_ble_eq_true rfl⟩) ⟨qX.blind, qrecv hC (hW.to qLV0) rfl, qX.pre hC hW hZ hT⟩ rfl rfl hl.1 rfl (lv_room (Nat.le_of_ble_eq_true rfl)) dX7_counted_2 ⟨Nat.le_of_ble_eq_true rfl, Nat.le_of_ble_eq_true rfl⟩) hS (fun _ h => h) htab hlocks
set_option maxHeartbeats 4000000 in
set_option maxRecDepth 100000 in
theorem x_countedAnew1 (l : Launch) (hst : l.stackTraces = false) (G : QG) (es : Nat) (A : Nat → Prop) (σ ad : QSt) (hF : qWF σ) (x : Int32) (hx0 : ¬ rIn x (σ 0 2)) : vx_Met l yX7_countedAnew wsX7_countedAnew ({ frames := 7, cells := 1, slots := 6, locals := 103 } : Room) (qX G es A σ ad [.ref (ad 0 0), .int (x)]) qNR (qXX "java/lang/IndexOutOfBoundsException") 1 6 A := by
  refine vx_ofW (cc := cX7_countedAnew) (maxL := 2) (ret := (some .int)) (by decide) rfl ?_
  intro p e s m args below meth c s₁ B hml htab hv
  obtain ⟨rfl, hC, hW, hZ, hT⟩ := hv
  have hx := B.exec
  have hb := B.bytes
  have hts := atoms_spec (ws := wsX7_countedAnew) B.pre
  have hown : s.vm.findClass RX7 = some m.cls := findClass_of_methodNamed B.named
  have hlocks := B.notSynchronized
  have hB := hF.1
  have hn := hF.n
  have hS : va_S A s.heap s.heap [] := va_S.rf
  have hl := lv_entry ([.ref (ad 0 0), .int (x)]) (n := 2) (Nat.le_of_ble_eq_true rfl)
  rw [lg_entry_eq]
  generalize (lg_sl ([.ref (ad 0 0), .int (x)]) ++ List.replicate (2 - (lg_sl ([.ref (ad 0 0), .int (x)])).length) Slot.unset).toArray = ls at hl ⊢
  have hl : lv_has ls 2 [(0, .ref (ad 0 0)), (1, .int (x))] := hl
  refine lv_aload_n hx hb dX7_countedAnew_0 rfl (lv_at hl 0 rfl) ?_
  refine lv_aload_n hx hb dX7_countedAnew_1 rfl (lv_at hl 0 rfl) ?_
  refine lv_iload_n hx hb dX7_countedAnew_2 rfl (lv_at hl 1 rfl) ?_
  exact q_xo (vx_runV (As := [.int (x)]) (rest := [.ref (ad 0 0)]) ⟨hx, hb, hml, hown, hts⟩ (x_alertNumbered l hst G es A σ ad hF x hx0) (cwV 1 hts gX7_countedAnew_X7_alertNumbered rfl rfl rfl (by decide +kernel) ⟨Nat.le_of_ble_eq_true rfl, Nat.le_of_ble_eq_true rfl⟩) ⟨qX.blind, qrecv hC (hW.to qLV0) rfl, qX.pre hC hW hZ hT⟩ rfl rfl hl.1 rfl (lv_room (Nat.le_of_ble_eq_true rfl)) dX7_countedAnew_3 ⟨Nat.le_of_ble_eq_true rfl, Nat.le_of_ble_eq_true rfl⟩) hS (fun _ h => h) htab hlocks
set_option maxHeartbeats 4000000 in
set_option maxRecDepth 100000 in
theorem x_heldFor1 (l : Launch) (hst : l.stackTraces = false) (G : QG) (es : Nat) (A : Nat → Prop) (σ ad : QSt) (hF : qWF σ) (x : Int32) (hx0 : ¬ rIn x (σ 0 2)) : vx_Met l yX7_heldFor wsX7_heldFor ({ frames := 7, cells := 1, slots := 6, locals := 103 } : Room) (qX G es A σ ad [.ref (ad 0 0), .int (x)]) qNR (qXX "java/lang/IndexOutOfBoundsException") 1 6 A := by
  refine vx_ofW (cc := cX7_heldFor) (maxL := 2) (ret := (some .int)) (by decide) rfl ?_
  intro p e s m args below meth c s₁ B hml htab hv
  obtain ⟨rfl, hC, hW, hZ, hT⟩ := hv
  have hx := B.exec
  have hb := B.bytes
  have hts := atoms_spec (ws := wsX7_heldFor) B.pre
  have hown : s.vm.findClass RX7 = some m.cls := findClass_of_methodNamed B.named
  have hlocks := B.notSynchronized
  have hB := hF.1
  have hn := hF.n
  have hS : va_S A s.heap s.heap [] := va_S.rf
  have hl := lv_entry ([.ref (ad 0 0), .int (x)]) (n := 2) (Nat.le_of_ble_eq_true rfl)
  rw [lg_entry_eq]
  generalize (lg_sl ([.ref (ad 0 0), .int (x)]) ++ List.replicate (2 - (lg_sl ([.ref (ad 0 0), .int (x)])).length) Slot.unset).toArray = ls at hl ⊢
  have hl : lv_has ls 2 [(0, .ref (ad 0 0)), (1, .int (x))] := hl
  refine lv_aload_n hx hb dX7_heldFor_0 rfl (lv_at hl 0 rfl) ?_
  refine lv_iload_n hx hb dX7_heldFor_1 rfl (lv_at hl 1 rfl) ?_
  exact q_xo (vx_runV (As := [.int (x)]) (rest := []) ⟨hx, hb, hml, hown, hts⟩ (x_alertNumbered l hst G es A σ ad hF x hx0) (cwV 1 hts gX7_heldFor_X7_alertNumbered rfl rfl rfl (by decide +kernel) ⟨Nat.le_of_ble_eq_true rfl, Nat.le_of_ble_eq_true rfl⟩) ⟨qX.blind, qrecv hC (hW.to qLV0) rfl, qX.pre hC hW hZ hT⟩ rfl rfl hl.1 rfl (lv_room (Nat.le_of_ble_eq_true rfl)) dX7_heldFor_2 ⟨Nat.le_of_ble_eq_true rfl, Nat.le_of_ble_eq_true rfl⟩) hS (fun _ h => h) htab hlocks
set_option maxHeartbeats 4000000 in
set_option maxRecDepth 100000 in
theorem x_alertOf1 (l : Launch) (hst : l.stackTraces = false) (G : QG) (es : Nat) (A : Nat → Prop) (σ ad : QSt) (hF : qWF σ) (x : Int32) (hx0 : ¬ rIn x (σ 0 3)) : vx_Met l yX7_alertOf wsX7_alertOf ({ frames := 7, cells := 1, slots := 6, locals := 103 } : Room) (qX G es A σ ad [.ref (ad 0 0), .int (x)]) qNR (qXX "java/util/NoSuchElementException") 1 6 A := by
  refine vx_ofW (cc := cX7_alertOf) (maxL := 2) (ret := (some .int)) (by decide) rfl ?_
  intro p e s m args below meth c s₁ B hml htab hv
  obtain ⟨rfl, hC, hW, hZ, hT⟩ := hv
  have hx := B.exec
  have hb := B.bytes
  have hts := atoms_spec (ws := wsX7_alertOf) B.pre
  have hown : s.vm.findClass RX7 = some m.cls := findClass_of_methodNamed B.named
  have hlocks := B.notSynchronized
  have hB := hF.1
  have hn := hF.n
  have hS : va_S A s.heap s.heap [] := va_S.rf
  have hl := lv_entry ([.ref (ad 0 0), .int (x)]) (n := 2) (Nat.le_of_ble_eq_true rfl)
  rw [lg_entry_eq]
  generalize (lg_sl ([.ref (ad 0 0), .int (x)]) ++ List.replicate (2 - (lg_sl ([.ref (ad 0 0), .int (x)])).length) Slot.unset).toArray = ls at hl ⊢
  have hl : lv_has ls 2 [(0, .ref (ad 0 0)), (1, .int (x))] := hl
  refine lv_aload_n hx hb dX7_alertOf_0 rfl (lv_at hl 0 rfl) ?_
  refine lv_iload_n hx hb dX7_alertOf_1 rfl (lv_at hl 1 rfl) ?_
  exact q_xo (vx_runV (As := [.int (x)]) (rest := []) ⟨hx, hb, hml, hown, hts⟩ (x_firingNumbered l hst G es A σ ad hF x hx0) (cwV 1 hts gX7_alertOf_X7_firingNumbered rfl rfl rfl (by decide +kernel) ⟨Nat.le_of_ble_eq_true rfl, Nat.le_of_ble_eq_true rfl⟩) ⟨qX.blind, qrecv hC (hW.to qLV0) rfl, qX.pre hC hW hZ hT⟩ rfl rfl hl.1 rfl (lv_room (Nat.le_of_ble_eq_true rfl)) dX7_alertOf_2 ⟨Nat.le_of_ble_eq_true rfl, Nat.le_of_ble_eq_true rfl⟩) hS (fun _ h => h) htab hlocks
set_option maxHeartbeats 4000000 in
set_option maxRecDepth 100000 in
theorem x_firedAt1 (l : Launch) (hst : l.stackTraces = false) (G : QG) (es : Nat) (A : Nat → Prop) (σ ad : QSt) (hF : qWF σ) (x : Int32) (hx0 : ¬ rIn x (σ 0 3)) : vx_Met l yX7_firedAt wsX7_firedAt ({ frames := 7, cells := 1, slots := 6, locals := 103 } : Room) (qX G es A σ ad [.ref (ad 0 0), .int (x)]) qNR (qXX "java/util/NoSuchElementException") 1 6 A := by
  refine vx_ofW (cc := cX7_firedAt) (maxL := 2) (ret := (some .int)) (by decide) rfl ?_
  intro p e s m args below meth c s₁ B hml htab hv
  obtain ⟨rfl, hC, hW, hZ, hT⟩ := hv
  have hx := B.exec
  have hb := B.bytes
  have hts := atoms_spec (ws := wsX7_firedAt) B.pre
  have hown : s.vm.findClass RX7 = some m.cls := findClass_of_methodNamed B.named
  have hlocks := B.notSynchronized
  have hB := hF.1
  have hn := hF.n
  have hS : va_S A s.heap s.heap [] := va_S.rf
  have hl := lv_entry ([.ref (ad 0 0), .int (x)]) (n := 2) (Nat.le_of_ble_eq_true rfl)
  rw [lg_entry_eq]
  generalize (lg_sl ([.ref (ad 0 0), .int (x)]) ++ List.replicate (2 - (lg_sl ([.ref (ad 0 0), .int (x)])).length) Slot.unset).toArray = ls at hl ⊢
  have hl : lv_has ls 2 [(0, .ref (ad 0 0)), (1, .int (x))] := hl
  refine lv_aload_n hx hb dX7_firedAt_0 rfl (lv_at hl 0 rfl) ?_
  refine lv_iload_n hx hb dX7_firedAt_1 rfl (lv_at hl 1 rfl) ?_
  exact q_xo (vx_runV (As := [.int (x)]) (rest := []) ⟨hx, hb, hml, hown, hts⟩ (x_firingNumbered l hst G es A σ ad hF x hx0) (cwV 1 hts gX7_firedAt_X7_firingNumbered rfl rfl rfl (by decide +kernel) ⟨Nat.le_of_ble_eq_true rfl, Nat.le_of_ble_eq_true rfl⟩) ⟨qX.blind, qrecv hC (hW.to qLV0) rfl, qX.pre hC hW hZ hT⟩ rfl rfl hl.1 rfl (lv_room (Nat.le_of_ble_eq_true rfl)) dX7_firedAt_2 ⟨Nat.le_of_ble_eq_true rfl, Nat.le_of_ble_eq_true rfl⟩) hS (fun _ h => h) htab hlocks
set_option maxHeartbeats 4000000 in
set_option maxRecDepth 100000 in
theorem x_ground1 (l : Launch) (hst : l.stackTraces = false) (G : QG) (es : Nat) (A : Nat → Prop) (σ ad : QSt) (hF : qWF σ) (x : Int32) (hx0 : ¬ rIn x (σ 0 3)) : vx_Met l yX7_ground wsX7_ground ({ frames := 7, cells := 1, slots := 6, locals := 103 } : Room) (qX G es A σ ad [.ref (ad 0 0), .int (x)]) qNR (qXX "java/util/NoSuchElementException") 1 6 A := by
  refine vx_ofW (cc := cX7_ground) (maxL := 2) (ret := (some .int)) (by decide) rfl ?_
  intro p e s m args below meth c s₁ B hml htab hv
  obtain ⟨rfl, hC, hW, hZ, hT⟩ := hv
  have hx := B.exec
  have hb := B.bytes
  have hts := atoms_spec (ws := wsX7_ground) B.pre
  have hown : s.vm.findClass RX7 = some m.cls := findClass_of_methodNamed B.named
  have hlocks := B.notSynchronized
  have hB := hF.1
  have hn := hF.n
  have hS : va_S A s.heap s.heap [] := va_S.rf
  have hl := lv_entry ([.ref (ad 0 0), .int (x)]) (n := 2) (Nat.le_of_ble_eq_true rfl)
  rw [lg_entry_eq]
  generalize (lg_sl ([.ref (ad 0 0), .int (x)]) ++ List.replicate (2 - (lg_sl ([.ref (ad 0 0), .int (x)])).length) Slot.unset).toArray = ls at hl ⊢
  have hl : lv_has ls 2 [(0, .ref (ad 0 0)), (1, .int (x))] := hl
  refine lv_aload_n hx hb dX7_ground_0 rfl (lv_at hl 0 rfl) ?_
  refine lv_iload_n hx hb dX7_ground_1 rfl (lv_at hl 1 rfl) ?_
  exact q_xo (vx_runV (As := [.int (x)]) (rest := []) ⟨hx, hb, hml, hown, hts⟩ (x_firingNumbered l hst G es A σ ad hF x hx0) (cwV 1 hts gX7_ground_X7_firingNumbered rfl rfl rfl (by decide +kernel) ⟨Nat.le_of_ble_eq_true rfl, Nat.le_of_ble_eq_true rfl⟩) ⟨qX.blind, qrecv hC (hW.to qLV0) rfl, qX.pre hC hW hZ hT⟩ rfl rfl hl.1 rfl (lv_room (Nat.le_of_ble_eq_true rfl)) dX7_ground_2 ⟨Nat.le_of_ble_eq_true rfl, Nat.le_of_ble_eq_true rfl⟩) hS (fun _ h => h) htab hlocks
set_option maxHeartbeats 4000000 in
set_option maxRecDepth 100000 in
theorem x_release1 (l : Launch) (hst : l.stackTraces = false) (G : QG) (es : Nat) (A : Nat → Prop) (σ ad : QSt) (hF : qWF σ) (x : Int32) (hx0 : ¬ rIn x (σ 0 3)) : vx_Met l yX7_release wsX7_release ({ frames := 7, cells := 1, slots := 6, locals := 103 } : Room) (qX G es A σ ad [.ref (ad 0 0), .int (x)]) qNR (qXX "java/util/NoSuchElementException") 1 6 A := by
  refine vx_ofW (cc := cX7_release) (maxL := 3) (ret := (some .int)) (by decide) rfl ?_
  intro p e s m args below meth c s₁ B hml htab hv
  obtain ⟨rfl, hC, hW, hZ, hT⟩ := hv
  have hx := B.exec
  have hb := B.bytes
  have hts := atoms_spec (ws := wsX7_release) B.pre
  have hown : s.vm.findClass RX7 = some m.cls := findClass_of_methodNamed B.named
  have hlocks := B.notSynchronized
  have hB := hF.1
  have hn := hF.n
  have hS : va_S A s.heap s.heap [] := va_S.rf
  have hl := lv_entry ([.ref (ad 0 0), .int (x)]) (n := 3) (Nat.le_of_ble_eq_true rfl)
  rw [lg_entry_eq]
  generalize (lg_sl ([.ref (ad 0 0), .int (x)]) ++ List.replicate (3 - (lg_sl ([.ref (ad 0 0), .int (x)])).length) Slot.unset).toArray = ls at hl ⊢
  have hl : lv_has ls 3 [(0, .ref (ad 0 0)), (1, .int (x))] := hl
  refine lv_aload_n hx hb dX7_release_0 rfl (lv_at hl 0 rfl) ?_
  refine lv_iload_n hx hb dX7_release_1 rfl (lv_at hl 1 rfl) ?_
  exact q_xo (vx_runV (As := [.int (x)]) (rest := []) ⟨hx, hb, hml, hown, hts⟩ (x_firingNumbered l hst G es A σ ad hF x hx0) (cwV 1 hts gX7_release_X7_firingNumbered rfl rfl rfl (by decide +kernel) ⟨Nat.le_of_ble_eq_true rfl, Nat.le_of_ble_eq_true rfl⟩) ⟨qX.blind, qrecv hC (hW.to qLV0) rfl, qX.pre hC hW hZ hT⟩ rfl rfl hl.1 rfl (lv_room (Nat.le_of_ble_eq_true rfl)) dX7_release_2 ⟨Nat.le_of_ble_eq_true rfl, Nat.le_of_ble_eq_true rfl⟩) hS (fun _ h => h) htab hlocks
set_option maxHeartbeats 4000000 in
set_option maxRecDepth 100000 in
theorem x_linesOf1 (l : Launch) (hst : l.stackTraces = false) (G : QG) (es : Nat) (A : Nat → Prop) (σ ad : QSt) (hF : qWF σ) (x : Int32) (hx0 : ¬ rIn x (σ 0 1)) : vx_Met l yX7_linesOf wsX7_linesOf ({ frames := 7, cells := 1, slots := 6, locals := 104 } : Room) (qX G es A σ ad [.ref (ad 0 0), .int (x)]) qNR (qXX "java/util/NoSuchElementException") 1 6 A := by
  refine vx_ofW (cc := cX7_linesOf) (maxL := 5) (ret := (some .int)) (by decide) rfl ?_
  intro p e s m args below meth c s₁ B hml htab hv
  obtain ⟨rfl, hC, hW, hZ, hT⟩ := hv
  have hx := B.exec
  have hb := B.bytes
  have hts := atoms_spec (ws := wsX7_linesOf) B.pre
  have hown : s.vm.findClass RX7 = some m.cls := findClass_of_methodNamed B.named
  have hlocks := B.notSynchronized
  have hB := hF.1
  have hn := hF.n
  have hS : va_S A s.heap s.heap [] := va_S.rf
  have hl := lv_entry ([.ref (ad 0 0), .int (x)]) (n := 5) (Nat.le_of_ble_eq_true rfl)
  rw [lg_entry_eq]
  generalize (lg_sl ([.ref (ad 0 0), .int (x)]) ++ List.replicate (5 - (lg_sl ([.ref (ad 0 0), .int (x)])).length) Slot.unset).toArray = ls at hl ⊢
  have hl : lv_has ls 5 [(0, .ref (ad 0 0)), (1, .int (x))] := hl
  refine lv_aload_n hx hb dX7_linesOf_0 rfl (lv_at hl 0 rfl) ?_
  refine lv_iload_n hx hb dX7_linesOf_1 rfl (lv_at hl 1 rfl) ?_
  exact q_xo (vx_runV (As := [.int (x)]) (rest := []) ⟨hx, hb, hml, hown, hts⟩ (x_patternNumbered l hst G es A σ ad hF x hx0) (cwV 1 hts gX7_linesOf_X7_patternNumbered rfl rfl rfl (by decide +kernel) ⟨Nat.le_of_ble_eq_true rfl, Nat.le_of_ble_eq_true rfl⟩) ⟨qX.blind, qrecv hC (hW.to qLV0) rfl, qX.pre hC hW hZ hT⟩ rfl rfl hl.1 rfl (lv_room (Nat.le_of_ble_eq_true rfl)) dX7_linesOf_2 ⟨Nat.le_of_ble_eq_true rfl, Nat.le_of_ble_eq_true rfl⟩) hS (fun _ h => h) htab hlocks
set_option maxHeartbeats 4000000 in
set_option maxRecDepth 100000 in
theorem x_linesOf1m (l : Launch) (hst : l.stackTraces = false) (G : QG) (es : Nat) (A : Nat → Prop) (σ ad : QSt) (hF : qWF σ) (p0 : Nat) (hp : p0 < σ 0 1) (hm : σ 97 p0 ≠ 0) : vx_Met l yX7_linesOf wsX7_linesOf ({ frames := 7, cells := 1, slots := 6, locals := 104 } : Room) (qX G es A σ ad [.ref (ad 0 0), .int (nI p0)]) qNR (qXX "java/util/NoSuchElementException") 1 6 A := by
  refine vx_ofW (cc := cX7_linesOf) (maxL := 5) (ret := (some .int)) (by decide) rfl ?_
  intro p e s m args below meth c s₁ B hml htab hv
  obtain ⟨rfl, hC, hW, hZ, hT⟩ := hv
  have hx := B.exec
  have hb := B.bytes
  have hts := atoms_spec (ws := wsX7_linesOf) B.pre
  have hown : s.vm.findClass RX7 = some m.cls := findClass_of_methodNamed B.named
  have hlocks := B.notSynchronized
  have hB := hF.1
  have hn := hF.n
  have hS : va_S A s.heap s.heap [] := va_S.rf
  have hl := lv_entry ([.ref (ad 0 0), .int (nI p0)]) (n := 5) (Nat.le_of_ble_eq_true rfl)
  rw [lg_entry_eq]
  generalize (lg_sl ([.ref (ad 0 0), .int (nI p0)]) ++ List.replicate (5 - (lg_sl ([.ref (ad 0 0), .int (nI p0)])).length) Slot.unset).toArray = ls at hl ⊢
  have hl : lv_has ls 5 [(0, .ref (ad 0 0)), (1, .int (nI p0))] := hl
  refine lv_aload_n hx hb dX7_linesOf_0 rfl (lv_at hl 0 rfl) ?_
  refine lv_iload_n hx hb dX7_linesOf_1 rfl (lv_at hl 1 rfl) ?_
  exact q_xo (vx_runV (As := [.int (nI p0)]) (rest := []) ⟨hx, hb, hml, hown, hts⟩ (x_patternNumberedM l hst G es A σ ad hF p0 hp hm) (cwV 1 hts gX7_linesOf_X7_patternNumbered rfl rfl rfl (by decide +kernel) ⟨Nat.le_of_ble_eq_true rfl, Nat.le_of_ble_eq_true rfl⟩) ⟨qX.blind, qrecv hC (hW.to qLV0) rfl, qX.pre hC hW hZ hT⟩ rfl rfl hl.1 rfl (lv_room (Nat.le_of_ble_eq_true rfl)) dX7_linesOf_2 ⟨Nat.le_of_ble_eq_true rfl, Nat.le_of_ble_eq_true rfl⟩) hS (fun _ h => h) htab hlocks
set_option maxHeartbeats 4000000 in
set_option maxRecDepth 100000 in
theorem x_wordAt1 (l : Launch) (hst : l.stackTraces = false) (G : QG) (es : Nat) (A : Nat → Prop) (σ ad : QSt) (hF : qWF σ) (x : Int32) (hx0 : ¬ rIn x (σ 0 1)) (y : Int32) : vx_Met l yX7_wordAt wsX7_wordAt ({ frames := 7, cells := 1, slots := 6, locals := 104 } : Room) (qX G es A σ ad [.ref (ad 0 0), .int (x), .int (y)]) qNR (qXX "java/util/NoSuchElementException") 1 6 A := by
  refine vx_ofW (cc := cX7_wordAt) (maxL := 4) (ret := (some .int)) (by decide) rfl ?_
  intro p e s m args below meth c s₁ B hml htab hv
  obtain ⟨rfl, hC, hW, hZ, hT⟩ := hv
  have hx := B.exec
  have hb := B.bytes
  have hts := atoms_spec (ws := wsX7_wordAt) B.pre
  have hown : s.vm.findClass RX7 = some m.cls := findClass_of_methodNamed B.named
  have hlocks := B.notSynchronized
  have hB := hF.1
  have hn := hF.n
  have hS : va_S A s.heap s.heap [] := va_S.rf
  have hl := lv_entry ([.ref (ad 0 0), .int (x), .int (y)]) (n := 4) (Nat.le_of_ble_eq_true rfl)
  rw [lg_entry_eq]
  generalize (lg_sl ([.ref (ad 0 0), .int (x), .int (y)]) ++ List.replicate (4 - (lg_sl ([.ref (ad 0 0), .int (x), .int (y)])).length) Slot.unset).toArray = ls at hl ⊢
  have hl : lv_has ls 4 [(0, .ref (ad 0 0)), (1, .int (x)), (2, .int (y))] := hl
  refine lv_aload_n hx hb dX7_wordAt_0 rfl (lv_at hl 0 rfl) ?_
  refine lv_iload_n hx hb dX7_wordAt_1 rfl (lv_at hl 1 rfl) ?_
  exact q_xo (vx_runV (As := [.int (x)]) (rest := []) ⟨hx, hb, hml, hown, hts⟩ (x_patternNumbered l hst G es A σ ad hF x hx0) (cwV 1 hts gX7_wordAt_X7_patternNumbered rfl rfl rfl (by decide +kernel) ⟨Nat.le_of_ble_eq_true rfl, Nat.le_of_ble_eq_true rfl⟩) ⟨qX.blind, qrecv hC (hW.to qLV0) rfl, qX.pre hC hW hZ hT⟩ rfl rfl hl.1 rfl (lv_room (Nat.le_of_ble_eq_true rfl)) dX7_wordAt_2 ⟨Nat.le_of_ble_eq_true rfl, Nat.le_of_ble_eq_true rfl⟩) hS (fun _ h => h) htab hlocks
set_option maxHeartbeats 4000000 in
set_option maxRecDepth 100000 in
theorem x_wordAt1m (l : Launch) (hst : l.stackTraces = false) (G : QG) (es : Nat) (A : Nat → Prop) (σ ad : QSt) (hF : qWF σ) (p0 : Nat) (hp : p0 < σ 0 1) (hm : σ 97 p0 ≠ 0) (y : Int32) : vx_Met l yX7_wordAt wsX7_wordAt ({ frames := 7, cells := 1, slots := 6, locals := 104 } : Room) (qX G es A σ ad [.ref (ad 0 0), .int (nI p0), .int (y)]) qNR (qXX "java/util/NoSuchElementException") 1 6 A := by
  refine vx_ofW (cc := cX7_wordAt) (maxL := 4) (ret := (some .int)) (by decide) rfl ?_
  intro p e s m args below meth c s₁ B hml htab hv
  obtain ⟨rfl, hC, hW, hZ, hT⟩ := hv
  have hx := B.exec
  have hb := B.bytes
  have hts := atoms_spec (ws := wsX7_wordAt) B.pre
  have hown : s.vm.findClass RX7 = some m.cls := findClass_of_methodNamed B.named
  have hlocks := B.notSynchronized
  have hB := hF.1
  have hn := hF.n
  have hS : va_S A s.heap s.heap [] := va_S.rf
  have hl := lv_entry ([.ref (ad 0 0), .int (nI p0), .int (y)]) (n := 4) (Nat.le_of_ble_eq_true rfl)
  rw [lg_entry_eq]
  generalize (lg_sl ([.ref (ad 0 0), .int (nI p0), .int (y)]) ++ List.replicate (4 - (lg_sl ([.ref (ad 0 0), .int (nI p0), .int (y)])).length) Slot.unset).toArray = ls at hl ⊢
  have hl : lv_has ls 4 [(0, .ref (ad 0 0)), (1, .int (nI p0)), (2, .int (y))] := hl
  refine lv_aload_n hx hb dX7_wordAt_0 rfl (lv_at hl 0 rfl) ?_
  refine lv_iload_n hx hb dX7_wordAt_1 rfl (lv_at hl 1 rfl) ?_
  exact q_xo (vx_runV (As := [.int (nI p0)]) (rest := []) ⟨hx, hb, hml, hown, hts⟩ (x_patternNumberedM l hst G es A σ ad hF p0 hp hm) (cwV 1 hts gX7_wordAt_X7_patternNumbered rfl rfl rfl (by decide +kernel) ⟨Nat.le_of_ble_eq_true rfl, Nat.le_of_ble_eq_true rfl⟩) ⟨qX.blind, qrecv hC (hW.to qLV0) rfl, qX.pre hC hW hZ hT⟩ rfl rfl hl.1 rfl (lv_room (Nat.le_of_ble_eq_true rfl)) dX7_wordAt_2 ⟨Nat.le_of_ble_eq_true rfl, Nat.le_of_ble_eq_true rfl⟩) hS (fun _ h => h) htab hlocks
set_option maxHeartbeats 4000000 in
set_option maxRecDepth 100000 in
theorem x_wordAt2 (l : Launch) (hst : l.stackTraces = false) (G : QG) (es : Nat) (A : Nat → Prop) (σ ad : QSt) (hF : qWF σ) (p0 : Nat) (hp : p0 < σ 0 1) (hm : σ 97 p0 = 0) (y : Int32) (hbad : ¬ (nI 0 ≤ y ∧ y ≤ nI 2)) : vx_Met l yX7_wordAt wsX7_wordAt ({ frames := 7, cells := 1, slots := 6, locals := 102 } : Room) (qX G es A σ ad [.ref (ad 0 0), .int (nI p0), .int (y)]) qNR (qXX "java/lang/IllegalArgumentException") 1 6 A := by
  refine vx_ofW (cc := cX7_wordAt) (maxL := 4) (ret := (some .int)) (by decide) rfl ?_
  intro p e s m args below meth c s₁ B hml htab hv
  obtain ⟨rfl, hC, hW, hZ, hT⟩ := hv
  have hx := B.exec
  have hb := B.bytes
  have hts := atoms_spec (ws := wsX7_wordAt) B.pre
  have hown : s.vm.findClass RX7 = some m.cls := findClass_of_methodNamed B.named
  have hlocks := B.notSynchronized
  have hB := hF.1
  have hn := hF.n
  have hS : va_S A s.heap s.heap [] := va_S.rf
  have hl := lv_entry ([.ref (ad 0 0), .int (nI p0), .int (y)]) (n := 4) (Nat.le_of_ble_eq_true rfl)
  rw [lg_entry_eq]
  generalize (lg_sl ([.ref (ad 0 0), .int (nI p0), .int (y)]) ++ List.replicate (4 - (lg_sl ([.ref (ad 0 0), .int (nI p0), .int (y)])).length) Slot.unset).toArray = ls at hl ⊢
  have hl : lv_has ls 4 [(0, .ref (ad 0 0)), (1, .int (nI p0)), (2, .int (y))] := hl
  have iRX7 : ∀ w ∈ wsX70, w ∈ wsX7_wordAt := by decide +kernel
  have iRX4 : ∀ w ∈ wsX40, w ∈ wsX7_wordAt := by decide +kernel
  refine lv_aload_n hx hb dX7_wordAt_0 rfl (lv_at hl 0 rfl) ?_
  refine lv_iload_n hx hb dX7_wordAt_1 rfl (lv_at hl 1 rfl) ?_
  refine q_v (va_runV (As := [.int (nI p0)]) (rest := []) ⟨hx, hb, hml, hown, hts⟩ (m_patternNumbered l G es A σ ad hF p0 hp hm) (cwV 1 hts gX7_wordAt_X7_patternNumbered rfl rfl rfl (by decide +kernel) ⟨Nat.le_of_ble_eq_true rfl, Nat.le_of_ble_eq_true rfl⟩) ⟨qR.blind, qrecv hC (hW.to qLV0) rfl, qR.pre hC hW⟩ rfl rfl hl.1 rfl (lv_room (Nat.le_of_ble_eq_true rfl)) dX7_wordAt_2 ⟨Nat.le_of_ble_eq_true rfl, Nat.le_of_ble_eq_true rfl⟩) hS (fun _ h => h.elim) (fun locs hS => ?_)
  refine lv_astore_n (lv' := [(3, .ref (ad 6 p0)), (0, .ref (ad 0 0)), (1, .int (nI p0)), (2, .int (y))]) hx hb dX7_wordAt_5 rfl hl (by decide) rfl (fun ls hl => ?_)
  refine lv_iload_n hx hb dX7_wordAt_6 rfl (lv_at hl 3 rfl) ?_
  exact q_xo (vx_runS (As := [.int (y)]) (rest := []) ⟨hx, hb, hml, hown, hts⟩ (x_checkPlace l hst G es A σ ad hF y hbad) (va_cwS 1 hts gX7_wordAt_X7_checkPlace rfl rfl rfl (by decide +kernel) ⟨Nat.le_of_ble_eq_true rfl, Nat.le_of_ble_eq_true rfl⟩) ⟨qX.blind, qX.pre hC hW hZ hT⟩ rfl rfl hl.1 rfl (lv_room (Nat.le_of_ble_eq_true rfl)) dX7_wordAt_7 ⟨Nat.le_of_ble_eq_true rfl, Nat.le_of_ble_eq_true rfl⟩) hS (fun _ h => h) htab hlocks
set_option maxHeartbeats 4000000 in
set_option maxRecDepth 100000 in
theorem x_values1 (l : Launch) (hst : l.stackTraces = false) (G : QG) (es : Nat) (A : Nat → Prop) (σ ad : QSt) (hF : qWF σ) (x : Int32) (hx0 : ¬ rIn x (σ 0 1)) (y : Int32) : vx_Met l yX7_values wsX7_values ({ frames := 7, cells := 1, slots := 6, locals := 104 } : Room) (qX G es A σ ad [.ref (ad 0 0), .int (x), .int (y)]) qNR (qXX "java/util/NoSuchElementException") 1 6 A := by
  refine vx_ofW (cc := cX7_values) (maxL := 11) (ret := (some .int)) (by decide) rfl ?_
  intro p e s m args below meth c s₁ B hml htab hv
  obtain ⟨rfl, hC, hW, hZ, hT⟩ := hv
  have hx := B.exec
  have hb := B.bytes
  have hts := atoms_spec (ws := wsX7_values) B.pre
  have hown : s.vm.findClass RX7 = some m.cls := findClass_of_methodNamed B.named
  have hlocks := B.notSynchronized
  have hB := hF.1
  have hn := hF.n
  have hS : va_S A s.heap s.heap [] := va_S.rf
  have hl := lv_entry ([.ref (ad 0 0), .int (x), .int (y)]) (n := 11) (Nat.le_of_ble_eq_true rfl)
  rw [lg_entry_eq]
  generalize (lg_sl ([.ref (ad 0 0), .int (x), .int (y)]) ++ List.replicate (11 - (lg_sl ([.ref (ad 0 0), .int (x), .int (y)])).length) Slot.unset).toArray = ls at hl ⊢
  have hl : lv_has ls 11 [(0, .ref (ad 0 0)), (1, .int (x)), (2, .int (y))] := hl
  refine lv_aload_n hx hb dX7_values_0 rfl (lv_at hl 0 rfl) ?_
  refine lv_iload_n hx hb dX7_values_1 rfl (lv_at hl 1 rfl) ?_
  exact q_xo (vx_runV (As := [.int (x)]) (rest := []) ⟨hx, hb, hml, hown, hts⟩ (x_patternNumbered l hst G es A σ ad hF x hx0) (cwV 1 hts gX7_values_X7_patternNumbered rfl rfl rfl (by decide +kernel) ⟨Nat.le_of_ble_eq_true rfl, Nat.le_of_ble_eq_true rfl⟩) ⟨qX.blind, qrecv hC (hW.to qLV0) rfl, qX.pre hC hW hZ hT⟩ rfl rfl hl.1 rfl (lv_room (Nat.le_of_ble_eq_true rfl)) dX7_values_2 ⟨Nat.le_of_ble_eq_true rfl, Nat.le_of_ble_eq_true rfl⟩) hS (fun _ h => h) htab hlocks
set_option maxHeartbeats 4000000 in
set_option maxRecDepth 100000 in
theorem x_values1m (l : Launch) (hst : l.stackTraces = false) (G : QG) (es : Nat) (A : Nat → Prop) (σ ad : QSt) (hF : qWF σ) (p0 : Nat) (hp : p0 < σ 0 1) (hm : σ 97 p0 ≠ 0) (y : Int32) : vx_Met l yX7_values wsX7_values ({ frames := 7, cells := 1, slots := 6, locals := 104 } : Room) (qX G es A σ ad [.ref (ad 0 0), .int (nI p0), .int (y)]) qNR (qXX "java/util/NoSuchElementException") 1 6 A := by
  refine vx_ofW (cc := cX7_values) (maxL := 11) (ret := (some .int)) (by decide) rfl ?_
  intro p e s m args below meth c s₁ B hml htab hv
  obtain ⟨rfl, hC, hW, hZ, hT⟩ := hv
  have hx := B.exec
  have hb := B.bytes
  have hts := atoms_spec (ws := wsX7_values) B.pre
  have hown : s.vm.findClass RX7 = some m.cls := findClass_of_methodNamed B.named
  have hlocks := B.notSynchronized
  have hB := hF.1
  have hn := hF.n
  have hS : va_S A s.heap s.heap [] := va_S.rf
  have hl := lv_entry ([.ref (ad 0 0), .int (nI p0), .int (y)]) (n := 11) (Nat.le_of_ble_eq_true rfl)
  rw [lg_entry_eq]
  generalize (lg_sl ([.ref (ad 0 0), .int (nI p0), .int (y)]) ++ List.replicate (11 - (lg_sl ([.ref (ad 0 0), .int (nI p0), .int (y)])).length) Slot.unset).toArray = ls at hl ⊢
  have hl : lv_has ls 11 [(0, .ref (ad 0 0)), (1, .int (nI p0)), (2, .int (y))] := hl
  refine lv_aload_n hx hb dX7_values_0 rfl (lv_at hl 0 rfl) ?_
  refine lv_iload_n hx hb dX7_values_1 rfl (lv_at hl 1 rfl) ?_
  exact q_xo (vx_runV (As := [.int (nI p0)]) (rest := []) ⟨hx, hb, hml, hown, hts⟩ (x_patternNumberedM l hst G es A σ ad hF p0 hp hm) (cwV 1 hts gX7_values_X7_patternNumbered rfl rfl rfl (by decide +kernel) ⟨Nat.le_of_ble_eq_true rfl, Nat.le_of_ble_eq_true rfl⟩) ⟨qX.blind, qrecv hC (hW.to qLV0) rfl, qX.pre hC hW hZ hT⟩ rfl rfl hl.1 rfl (lv_room (Nat.le_of_ble_eq_true rfl)) dX7_values_2 ⟨Nat.le_of_ble_eq_true rfl, Nat.le_of_ble_eq_true rfl⟩) hS (fun _ h => h) htab hlocks
set_option maxHeartbeats 4000000 in
set_option maxRecDepth 100000 in
theorem x_values2 (l : Launch) (hst : l.stackTraces = false) (G : QG) (es : Nat) (A : Nat → Prop) (σ ad : QSt) (hF : qWF σ) (p0 : Nat) (hp : p0 < σ 0 1) (hm : σ 97 p0 = 0) (y : Int32) (hbad : ¬ (nI 0 ≤ y ∧ y ≤ nI 2)) : vx_Met l yX7_values wsX7_values ({ frames := 7, cells := 1, slots := 6, locals := 102 } : Room) (qX G es A σ ad [.ref (ad 0 0), .int (nI p0), .int (y)]) qNR (qXX "java/lang/IllegalArgumentException") 1 6 A := by
  refine vx_ofW (cc := cX7_values) (maxL := 11) (ret := (some .int)) (by decide) rfl ?_
  intro p e s m args below meth c s₁ B hml htab hv
  obtain ⟨rfl, hC, hW, hZ, hT⟩ := hv
  have hx := B.exec
  have hb := B.bytes
  have hts := atoms_spec (ws := wsX7_values) B.pre
  have hown : s.vm.findClass RX7 = some m.cls := findClass_of_methodNamed B.named
  have hlocks := B.notSynchronized
  have hB := hF.1
  have hn := hF.n
  have hS : va_S A s.heap s.heap [] := va_S.rf
  have hl := lv_entry ([.ref (ad 0 0), .int (nI p0), .int (y)]) (n := 11) (Nat.le_of_ble_eq_true rfl)
  rw [lg_entry_eq]
  generalize (lg_sl ([.ref (ad 0 0), .int (nI p0), .int (y)]) ++ List.replicate (11 - (lg_sl ([.ref (ad 0 0), .int (nI p0), .int (y)])).length) Slot.unset).toArray = ls at hl ⊢
  have hl : lv_has ls 11 [(0, .ref (ad 0 0)), (1, .int (nI p0)), (2, .int (y))] := hl
  have iRX7 : ∀ w ∈ wsX70, w ∈ wsX7_values := by decide +kernel
  have iRX4 : ∀ w ∈ wsX40, w ∈ wsX7_values := by decide +kernel
  refine lv_aload_n hx hb dX7_values_0 rfl (lv_at hl 0 rfl) ?_
  refine lv_iload_n hx hb dX7_values_1 rfl (lv_at hl 1 rfl) ?_
  refine q_v (va_runV (As := [.int (nI p0)]) (rest := []) ⟨hx, hb, hml, hown, hts⟩ (m_patternNumbered l G es A σ ad hF p0 hp hm) (cwV 1 hts gX7_values_X7_patternNumbered rfl rfl rfl (by decide +kernel) ⟨Nat.le_of_ble_eq_true rfl, Nat.le_of_ble_eq_true rfl⟩) ⟨qR.blind, qrecv hC (hW.to qLV0) rfl, qR.pre hC hW⟩ rfl rfl hl.1 rfl (lv_room (Nat.le_of_ble_eq_true rfl)) dX7_values_2 ⟨Nat.le_of_ble_eq_true rfl, Nat.le_of_ble_eq_true rfl⟩) hS (fun _ h => h.elim) (fun locs hS => ?_)
  refine lv_astore_n (lv' := [(3, .ref (ad 6 p0)), (0, .ref (ad 0 0)), (1, .int (nI p0)), (2, .int (y))]) hx hb dX7_values_5 rfl hl (by decide) rfl (fun ls hl => ?_)
  refine lv_iload_n hx hb dX7_values_6 rfl (lv_at hl 3 rfl) ?_
  exact q_xo (vx_runS (As := [.int (y)]) (rest := []) ⟨hx, hb, hml, hown, hts⟩ (x_checkPlace l hst G es A σ ad hF y hbad) (va_cwS 1 hts gX7_values_X7_checkPlace rfl rfl rfl (by decide +kernel) ⟨Nat.le_of_ble_eq_true rfl, Nat.le_of_ble_eq_true rfl⟩) ⟨qX.blind, qX.pre hC hW hZ hT⟩ rfl rfl hl.1 rfl (lv_room (Nat.le_of_ble_eq_true rfl)) dX7_values_7 ⟨Nat.le_of_ble_eq_true rfl, Nat.le_of_ble_eq_true rfl⟩) hS (fun _ h => h) htab hlocks
set_option maxHeartbeats 4000000 in
set_option maxRecDepth 100000 in
theorem x_standsOn1 (l : Launch) (hst : l.stackTraces = false) (G : QG) (es : Nat) (A : Nat → Prop) (σ ad : QSt) (hF : qWF σ) (x : Int32) (hx0 : ¬ rIn x (σ 0 3)) (y : Int32) : vx_Met l yX7_standsOn wsX7_standsOn ({ frames := 7, cells := 1, slots := 6, locals := 103 } : Room) (qX G es A σ ad [.ref (ad 0 0), .int (x), .int (y)]) qNR (qXX "java/util/NoSuchElementException") 1 6 A := by
  refine vx_ofW (cc := cX7_standsOn) (maxL := 4) (ret := (some .boolean)) (by decide) rfl ?_
  intro p e s m args below meth c s₁ B hml htab hv
  obtain ⟨rfl, hC, hW, hZ, hT⟩ := hv
  have hx := B.exec
  have hb := B.bytes
  have hts := atoms_spec (ws := wsX7_standsOn) B.pre
  have hown : s.vm.findClass RX7 = some m.cls := findClass_of_methodNamed B.named
  have hlocks := B.notSynchronized
  have hB := hF.1
  have hn := hF.n
  have hS : va_S A s.heap s.heap [] := va_S.rf
  have hl := lv_entry ([.ref (ad 0 0), .int (x), .int (y)]) (n := 4) (Nat.le_of_ble_eq_true rfl)
  rw [lg_entry_eq]
  generalize (lg_sl ([.ref (ad 0 0), .int (x), .int (y)]) ++ List.replicate (4 - (lg_sl ([.ref (ad 0 0), .int (x), .int (y)])).length) Slot.unset).toArray = ls at hl ⊢
  have hl : lv_has ls 4 [(0, .ref (ad 0 0)), (1, .int (x)), (2, .int (y))] := hl
  refine lv_aload_n hx hb dX7_standsOn_0 rfl (lv_at hl 0 rfl) ?_
  refine lv_iload_n hx hb dX7_standsOn_1 rfl (lv_at hl 1 rfl) ?_
  exact q_xo (vx_runV (As := [.int (x)]) (rest := []) ⟨hx, hb, hml, hown, hts⟩ (x_firingNumbered l hst G es A σ ad hF x hx0) (cwV 1 hts gX7_standsOn_X7_firingNumbered rfl rfl rfl (by decide +kernel) ⟨Nat.le_of_ble_eq_true rfl, Nat.le_of_ble_eq_true rfl⟩) ⟨qX.blind, qrecv hC (hW.to qLV0) rfl, qX.pre hC hW hZ hT⟩ rfl rfl hl.1 rfl (lv_room (Nat.le_of_ble_eq_true rfl)) dX7_standsOn_2 ⟨Nat.le_of_ble_eq_true rfl, Nat.le_of_ble_eq_true rfl⟩) hS (fun _ h => h) htab hlocks
set_option maxHeartbeats 4000000 in
set_option maxRecDepth 100000 in
theorem x_standsOn1l (l : Launch) (hst : l.stackTraces = false) (G : QG) (es : Nat) (A : Nat → Prop) (σ ad : QSt) (hF : qWF σ) (f : Nat) (hf : f < σ 0 3) (x : Int32) (hx0 : ¬ rIn x (σ 0 0)) : vx_Met l yX7_standsOn wsX7_standsOn ({ frames := 7, cells := 1, slots := 6, locals := 103 } : Room) (qX G es A σ ad [.ref (ad 0 0), .int (nI f), .int (x)]) qNR (qXX "java/util/NoSuchElementException") 1 6 A := by
  refine vx_ofW (cc := cX7_standsOn) (maxL := 4) (ret := (some .boolean)) (by decide) rfl ?_
  intro p e s m args below meth c s₁ B hml htab hv
  obtain ⟨rfl, hC, hW, hZ, hT⟩ := hv
  have hx := B.exec
  have hb := B.bytes
  have hts := atoms_spec (ws := wsX7_standsOn) B.pre
  have hown : s.vm.findClass RX7 = some m.cls := findClass_of_methodNamed B.named
  have hlocks := B.notSynchronized
  have hB := hF.1
  have hn := hF.n
  have hS : va_S A s.heap s.heap [] := va_S.rf
  have hl := lv_entry ([.ref (ad 0 0), .int (nI f), .int (x)]) (n := 4) (Nat.le_of_ble_eq_true rfl)
  rw [lg_entry_eq]
  generalize (lg_sl ([.ref (ad 0 0), .int (nI f), .int (x)]) ++ List.replicate (4 - (lg_sl ([.ref (ad 0 0), .int (nI f), .int (x)])).length) Slot.unset).toArray = ls at hl ⊢
  have hl : lv_has ls 4 [(0, .ref (ad 0 0)), (1, .int (nI f)), (2, .int (x))] := hl
  refine lv_aload_n hx hb dX7_standsOn_0 rfl (lv_at hl 0 rfl) ?_
  refine lv_iload_n hx hb dX7_standsOn_1 rfl (lv_at hl 1 rfl) ?_
  refine q_v (va_runV (As := [.int (nI f)]) (rest := []) ⟨hx, hb, hml, hown, hts⟩ (m_firingNumbered l G es A σ ad hF f hf) (cwV 1 hts gX7_standsOn_X7_firingNumbered rfl rfl rfl (by decide +kernel) ⟨Nat.le_of_ble_eq_true rfl, Nat.le_of_ble_eq_true rfl⟩) ⟨qR.blind, qrecv hC (hW.to qLV0) rfl, qR.pre hC hW⟩ rfl rfl hl.1 rfl (lv_room (Nat.le_of_ble_eq_true rfl)) dX7_standsOn_2 ⟨Nat.le_of_ble_eq_true rfl, Nat.le_of_ble_eq_true rfl⟩) hS (fun _ h => h.elim) (fun locs hS => ?_)
  refine lv_astore_n (lv' := [(3, .ref (ad 10 f)), (0, .ref (ad 0 0)), (1, .int (nI f)), (2, .int (x))]) hx hb dX7_standsOn_5 rfl hl (by decide) rfl (fun ls hl => ?_)
  refine lv_aload_n hx hb dX7_standsOn_6 rfl (lv_at hl 1 rfl) ?_
  refine lv_iload_n hx hb dX7_standsOn_7 rfl (lv_at hl 3 rfl) ?_
  exact q_xo (vx_runV (As := [.int (x)]) (rest := []) ⟨hx, hb, hml, hown, hts⟩ (x_lineNumbered l hst G es A σ ad hF x hx0) (cwV 1 hts gX7_standsOn_X7_lineNumbered rfl rfl rfl (by decide +kernel) ⟨Nat.le_of_ble_eq_true rfl, Nat.le_of_ble_eq_true rfl⟩) ⟨qX.blind, qrecv hC (hW.to qLV0) rfl, qX.pre hC hW hZ hT⟩ rfl rfl hl.1 rfl (lv_room (Nat.le_of_ble_eq_true rfl)) dX7_standsOn_8 ⟨Nat.le_of_ble_eq_true rfl, Nat.le_of_ble_eq_true rfl⟩) hS (fun _ h => h) htab hlocks
set_option maxHeartbeats 4000000 in
set_option maxRecDepth 100000 in
theorem x_patterns1 (l : Launch) (hst : l.stackTraces = false) (G : QG) (es : Nat) (A : Nat → Prop) (σ ad : QSt) (hF : qWF σ) (x : Int32) (hbad : ¬ (nI 0 ≤ x ∧ x ≤ nI 3)) : vx_Met l yX7_patterns wsX7_patterns ({ frames := 7, cells := 1, slots := 6, locals := 102 } : Room) (qX G es A σ ad [.ref (ad 0 0), .int (x)]) qNR (qXX "java/lang/IllegalArgumentException") 1 6 A := by
  refine vx_ofW (cc := cX7_patterns) (maxL := 5) (ret := (some .int)) (by decide) rfl ?_
  intro p e s m args below meth c s₁ B hml htab hv
  obtain ⟨rfl, hC, hW, hZ, hT⟩ := hv
  have hx := B.exec
  have hb := B.bytes
  have hts := atoms_spec (ws := wsX7_patterns) B.pre
  have hown : s.vm.findClass RX7 = some m.cls := findClass_of_methodNamed B.named
  have hlocks := B.notSynchronized
  have hB := hF.1
  have hn := hF.n
  have hS : va_S A s.heap s.heap [] := va_S.rf
  have hl := lv_entry ([.ref (ad 0 0), .int (x)]) (n := 5) (Nat.le_of_ble_eq_true rfl)
  rw [lg_entry_eq]
  generalize (lg_sl ([.ref (ad 0 0), .int (x)]) ++ List.replicate (5 - (lg_sl ([.ref (ad 0 0), .int (x)])).length) Slot.unset).toArray = ls at hl ⊢
  have hl : lv_has ls 5 [(0, .ref (ad 0 0)), (1, .int (x))] := hl
  refine lv_iload_n hx hb dX7_patterns_0 rfl (lv_at hl 1 rfl) ?_
  exact q_xo (vx_runS (As := [.int (x)]) (rest := []) ⟨hx, hb, hml, hown, hts⟩ (x_checkSource l hst G es A σ ad hF x hbad) (va_cwS 1 hts gX7_patterns_X7_checkSource rfl rfl rfl (by decide +kernel) ⟨Nat.le_of_ble_eq_true rfl, Nat.le_of_ble_eq_true rfl⟩) ⟨qX.blind, qX.pre hC hW hZ hT⟩ rfl rfl hl.1 rfl (lv_room (Nat.le_of_ble_eq_true rfl)) dX7_patterns_1 ⟨Nat.le_of_ble_eq_true rfl, Nat.le_of_ble_eq_true rfl⟩) hS (fun _ h => h) htab hlocks
set_option maxHeartbeats 4000000 in
set_option maxRecDepth 100000 in
theorem x_kept1 (l : Launch) (hst : l.stackTraces = false) (G : QG) (es : Nat) (A : Nat → Prop) (σ ad : QSt) (hF : qWF σ) (x : Int32) (hbad : ¬ (nI 0 ≤ x ∧ x ≤ nI 3)) : vx_Met l yX7_kept wsX7_kept ({ frames := 7, cells := 1, slots := 6, locals := 102 } : Room) (qX G es A σ ad [.ref (ad 0 0), .int (x)]) qNR (qXX "java/lang/IllegalArgumentException") 1 6 A := by
  refine vx_ofW (cc := cX7_kept) (maxL := 2) (ret := (some .int)) (by decide) rfl ?_
  intro p e s m args below meth c s₁ B hml htab hv
  obtain ⟨rfl, hC, hW, hZ, hT⟩ := hv
  have hx := B.exec
  have hb := B.bytes
  have hts := atoms_spec (ws := wsX7_kept) B.pre
  have hown : s.vm.findClass RX7 = some m.cls := findClass_of_methodNamed B.named
  have hlocks := B.notSynchronized
  have hB := hF.1
  have hn := hF.n
  have hS : va_S A s.heap s.heap [] := va_S.rf
  have hl := lv_entry ([.ref (ad 0 0), .int (x)]) (n := 2) (Nat.le_of_ble_eq_true rfl)
  rw [lg_entry_eq]
  generalize (lg_sl ([.ref (ad 0 0), .int (x)]) ++ List.replicate (2 - (lg_sl ([.ref (ad 0 0), .int (x)])).length) Slot.unset).toArray = ls at hl ⊢
  have hl : lv_has ls 2 [(0, .ref (ad 0 0)), (1, .int (x))] := hl
  refine lv_iload_n hx hb dX7_kept_0 rfl (lv_at hl 1 rfl) ?_
  exact q_xo (vx_runS (As := [.int (x)]) (rest := []) ⟨hx, hb, hml, hown, hts⟩ (x_checkSource l hst G es A σ ad hF x hbad) (va_cwS 1 hts gX7_kept_X7_checkSource rfl rfl rfl (by decide +kernel) ⟨Nat.le_of_ble_eq_true rfl, Nat.le_of_ble_eq_true rfl⟩) ⟨qX.blind, qX.pre hC hW hZ hT⟩ rfl rfl hl.1 rfl (lv_room (Nat.le_of_ble_eq_true rfl)) dX7_kept_1 ⟨Nat.le_of_ble_eq_true rfl, Nat.le_of_ble_eq_true rfl⟩) hS (fun _ h => h) htab hlocks
set_option maxHeartbeats 4000000 in
set_option maxRecDepth 100000 in
theorem x_dropped1 (l : Launch) (hst : l.stackTraces = false) (G : QG) (es : Nat) (A : Nat → Prop) (σ ad : QSt) (hF : qWF σ) (x : Int32) (hbad : ¬ (nI 0 ≤ x ∧ x ≤ nI 3)) : vx_Met l yX7_dropped wsX7_dropped ({ frames := 7, cells := 1, slots := 6, locals := 102 } : Room) (qX G es A σ ad [.ref (ad 0 0), .int (x)]) qNR (qXX "java/lang/IllegalArgumentException") 1 6 A := by
  refine vx_ofW (cc := cX7_dropped) (maxL := 5) (ret := (some .int)) (by decide) rfl ?_
  intro p e s m args below meth c s₁ B hml htab hv
  obtain ⟨rfl, hC, hW, hZ, hT⟩ := hv
  have hx := B.exec
  have hb := B.bytes
  have hts := atoms_spec (ws := wsX7_dropped) B.pre
  have hown : s.vm.findClass RX7 = some m.cls := findClass_of_methodNamed B.named
  have hlocks := B.notSynchronized
  have hB := hF.1
  have hn := hF.n
  have hS : va_S A s.heap s.heap [] := va_S.rf
  have hl := lv_entry ([.ref (ad 0 0), .int (x)]) (n := 5) (Nat.le_of_ble_eq_true rfl)
  rw [lg_entry_eq]
  generalize (lg_sl ([.ref (ad 0 0), .int (x)]) ++ List.replicate (5 - (lg_sl ([.ref (ad 0 0), .int (x)])).length) Slot.unset).toArray = ls at hl ⊢
  have hl : lv_has ls 5 [(0, .ref (ad 0 0)), (1, .int (x))] := hl
  refine lv_iload_n hx hb dX7_dropped_0 rfl (lv_at hl 1 rfl) ?_
  exact q_xo (vx_runS (As := [.int (x)]) (rest := []) ⟨hx, hb, hml, hown, hts⟩ (x_checkSource l hst G es A σ ad hF x hbad) (va_cwS 1 hts gX7_dropped_X7_checkSource rfl rfl rfl (by decide +kernel) ⟨Nat.le_of_ble_eq_true rfl, Nat.le_of_ble_eq_true rfl⟩) ⟨qX.blind, qX.pre hC hW hZ hT⟩ rfl rfl hl.1 rfl (lv_room (Nat.le_of_ble_eq_true rfl)) dX7_dropped_1 ⟨Nat.le_of_ble_eq_true rfl, Nat.le_of_ble_eq_true rfl⟩) hS (fun _ h => h) htab hlocks
set_option maxHeartbeats 4000000 in
set_option maxRecDepth 100000 in
theorem x_setBudget1a (l : Launch) (hst : l.stackTraces = false) (G : QG) (es : Nat) (A : Nat → Prop) (σ ad : QSt) (hF : qWF σ) (x y : Int32) (hbad : ¬ (nI 0 ≤ x ∧ x ≤ nI 3)) : vx_Met l yX7_setBudget wsX7_setBudget ({ frames := 7, cells := 1, slots := 6, locals := 102 } : Room) (qX G es A σ ad [.ref (ad 0 0), .int (x), .int (y)]) qNR (qXX "java/lang/IllegalArgumentException") 1 6 A := by
  refine vx_ofW (cc := cX7_setBudget) (maxL := 3) (ret := (some .int)) (by decide) rfl ?_
  intro p e s m args below meth c s₁ B hml htab hv
  obtain ⟨rfl, hC, hW, hZ, hT⟩ := hv
  have hx := B.exec
  have hb := B.bytes
  have hts := atoms_spec (ws := wsX7_setBudget) B.pre
  have hown : s.vm.findClass RX7 = some m.cls := findClass_of_methodNamed B.named
  have hlocks := B.notSynchronized
  have hB := hF.1
  have hn := hF.n
  have hS : va_S A s.heap s.heap [] := va_S.rf
  have hl := lv_entry ([.ref (ad 0 0), .int (x), .int (y)]) (n := 3) (Nat.le_of_ble_eq_true rfl)
  rw [lg_entry_eq]
  generalize (lg_sl ([.ref (ad 0 0), .int (x), .int (y)]) ++ List.replicate (3 - (lg_sl ([.ref (ad 0 0), .int (x), .int (y)])).length) Slot.unset).toArray = ls at hl ⊢
  have hl : lv_has ls 3 [(0, .ref (ad 0 0)), (1, .int (x)), (2, .int (y))] := hl
  refine lv_iload_n hx hb dX7_setBudget_0 rfl (lv_at hl 1 rfl) ?_
  exact q_xo (vx_runS (As := [.int (x)]) (rest := []) ⟨hx, hb, hml, hown, hts⟩ (x_checkSource l hst G es A σ ad hF x hbad) (va_cwS 1 hts gX7_setBudget_X7_checkSource rfl rfl rfl (by decide +kernel) ⟨Nat.le_of_ble_eq_true rfl, Nat.le_of_ble_eq_true rfl⟩) ⟨qX.blind, qX.pre hC hW hZ hT⟩ rfl rfl hl.1 rfl (lv_room (Nat.le_of_ble_eq_true rfl)) dX7_setBudget_1 ⟨Nat.le_of_ble_eq_true rfl, Nat.le_of_ble_eq_true rfl⟩) hS (fun _ h => h) htab hlocks
set_option maxHeartbeats 4000000 in
set_option maxRecDepth 100000 in
theorem x_setBudget1b (l : Launch) (hst : l.stackTraces = false) (G : QG) (es : Nat) (A : Nat → Prop) (σ ad : QSt) (hF : qWF σ) (s0 : Nat) (hs0 : s0 < 4) (y : Int32) (hbad : ¬ (nI 0 ≤ y ∧ y ≤ nI 9999)) : vx_Met l yX7_setBudget wsX7_setBudget ({ frames := 6, cells := 1, slots := 6, locals := 82 } : Room) (qX G es A σ ad [.ref (ad 0 0), .int (nI s0), .int (y)]) qNR (qXX "java/lang/IllegalArgumentException") 1 6 A := by
  refine vx_ofW (cc := cX7_setBudget) (maxL := 3) (ret := (some .int)) (by decide) rfl ?_
  intro p e s m args below meth c s₁ B hml htab hv
  obtain ⟨rfl, hC, hW, hZ, hT⟩ := hv
  have hx := B.exec
  have hb := B.bytes
  have hts := atoms_spec (ws := wsX7_setBudget) B.pre
  have hown : s.vm.findClass RX7 = some m.cls := findClass_of_methodNamed B.named
  have hlocks := B.notSynchronized
  have hB := hF.1
  have hn := hF.n
  have hS : va_S A s.heap s.heap [] := va_S.rf
  have hl := lv_entry ([.ref (ad 0 0), .int (nI s0), .int (y)]) (n := 3) (Nat.le_of_ble_eq_true rfl)
  rw [lg_entry_eq]
  generalize (lg_sl ([.ref (ad 0 0), .int (nI s0), .int (y)]) ++ List.replicate (3 - (lg_sl ([.ref (ad 0 0), .int (nI s0), .int (y)])).length) Slot.unset).toArray = ls at hl ⊢
  have hl : lv_has ls 3 [(0, .ref (ad 0 0)), (1, .int (nI s0)), (2, .int (y))] := hl
  refine lv_iload_n hx hb dX7_setBudget_0 rfl (lv_at hl 1 rfl) ?_
  refine q_n (va_runS (As := [.int (nI s0)]) (rest := []) ⟨hx, hb, hml, hown, hts⟩ (m_checkSource l s0 hs0) (va_cwS 1 hts gX7_setBudget_X7_checkSource rfl rfl rfl (by decide +kernel) ⟨Nat.le_of_ble_eq_true rfl, Nat.le_of_ble_eq_true rfl⟩) ⟨qU.blind, qU.pre⟩ rfl rfl hl.1 rfl (lv_room (Nat.le_of_ble_eq_true rfl)) dX7_setBudget_1 ⟨Nat.le_of_ble_eq_true rfl, Nat.le_of_ble_eq_true rfl⟩) hS (fun _ h => h.elim) (fun locs hS => ?_)
  refine lv_iload_n hx hb dX7_setBudget_4 rfl (lv_at hl 2 rfl) ?_
  refine lv_iconst (v := nI 0) hx hb dX7_setBudget_5 (by decide) ?_
  refine lv_sipush (v := nI 9999) hx hb dX7_setBudget_6 (by decide) ?_
  refine q_v (va_runS (As := [.int (y), .int (nI 0), .int (nI 9999)]) (rest := []) ⟨hx, hb, hml, hown, hts⟩ (m_isWithin l y (nI 0) (nI 9999)) (va_cwS 3 hts gX7_setBudget_X7_isWithin rfl rfl rfl (by decide +kernel) ⟨Nat.le_of_ble_eq_true rfl, Nat.le_of_ble_eq_true rfl⟩) ⟨qU.blind, qU.pre⟩ rfl rfl hl.1 rfl (lv_room (Nat.le_of_ble_eq_true rfl)) dX7_setBudget_9 ⟨Nat.le_of_ble_eq_true rfl, Nat.le_of_ble_eq_true rfl⟩) hS (fun _ h => h.elim) (fun locs hS => ?_)
  refine q_ti (y := nI 0) (by rw [qB_f hbad]) ?_
  refine q_ne0 (tgt := 25) hx hb (by decide) dX7_setBudget_12 (by decide) (fun g1 => absurd g1 (by decide)) (fun g1 => ?_)
  exact q_thrS hx hb hst (cls := "java/lang/IllegalArgumentException") (text := "the budget is out of range") hown (by decide) (hts (.classLink RX7 46 "java/lang/IllegalArgumentException") (List.mem_of_getElem? (i := 1) (by decide +kernel))) (hts (.initialized "java/lang/IllegalArgumentException") (List.mem_of_getElem? (i := 2) (by decide +kernel))) (hT _ (List.mem_of_getElem? (i := 2) rfl)) (fun w hw => hts w ((by decide +kernel : ∀ w ∈ (vx_atS RX7 50 "java/lang/IllegalArgumentException" qxn).filter goodWord, w ∈ wsX7_setBudget) w hw)) qxN_IAE qxG_IAE hC hZ hS hl.1 hml dX7_setBudget_15 dX7_setBudget_18 dX7_setBudget_19 dX7_setBudget_21 dX7_setBudget_24 htab (Nat.le_of_ble_eq_true rfl) (Nat.le_of_ble_eq_true rfl) (Nat.le_of_ble_eq_true rfl) (Nat.le_of_ble_eq_true rfl) hlocks
set_option maxHeartbeats 4000000 in
set_option maxRecDepth 100000 in
theorem x_archive2 (l : Launch) (hst : l.stackTraces = false) (G : QG) (es : Nat) (A : Nat → Prop) (σ ad : QSt) (hF : qWF σ) (i : Nat) (hi : i < σ 0 0) (hk9 : σ 69 i ≠ 107) : vx_Met l yX7_archive wsX7_archive ({ frames := 6, cells := 1, slots := 6, locals := 85 } : Room) (qX G es A σ ad [.ref (ad 0 0), .int (nI i)]) qNR (qXX "java/lang/IllegalStateException") 1 6 A := by
  refine vx_ofW (cc := cX7_archive) (maxL := 3) (ret := (some .int)) (by decide) rfl ?_
  intro p e s m args below meth c s₁ B hml htab hv
  obtain ⟨rfl, hC, hW, hZ, hT⟩ := hv
  have hx := B.exec
  have hb := B.bytes
  have hts := atoms_spec (ws := wsX7_archive) B.pre
  have hown : s.vm.findClass RX7 = some m.cls := findClass_of_methodNamed B.named
  have hlocks := B.notSynchronized
  have hB := hF.1
  have hn := hF.n
  have hS : va_S A s.heap s.heap [] := va_S.rf
  have hl := lv_entry ([.ref (ad 0 0), .int (nI i)]) (n := 3) (Nat.le_of_ble_eq_true rfl)
  rw [lg_entry_eq]
  generalize (lg_sl ([.ref (ad 0 0), .int (nI i)]) ++ List.replicate (3 - (lg_sl ([.ref (ad 0 0), .int (nI i)])).length) Slot.unset).toArray = ls at hl ⊢
  have hl : lv_has ls 3 [(0, .ref (ad 0 0)), (1, .int (nI i))] := hl
  have iRX7 : ∀ w ∈ wsX70, w ∈ wsX7_archive := by decide +kernel
  have iRX3 : ∀ w ∈ wsX30, w ∈ wsX7_archive := by decide +kernel
  refine lv_aload_n hx hb dX7_archive_0 rfl (lv_at hl 0 rfl) ?_
  refine lv_iload_n hx hb dX7_archive_1 rfl (lv_at hl 1 rfl) ?_
  refine q_v (va_runV (As := [.int (nI i)]) (rest := []) ⟨hx, hb, hml, hown, hts⟩ (m_lineNumbered l G es A σ ad hF i hi) (cwV 1 hts gX7_archive_X7_lineNumbered rfl rfl rfl (by decide +kernel) ⟨Nat.le_of_ble_eq_true rfl, Nat.le_of_ble_eq_true rfl⟩) ⟨qR.blind, qrecv hC (hW.to qLV0) rfl, qR.pre hC hW⟩ rfl rfl hl.1 rfl (lv_room (Nat.le_of_ble_eq_true rfl)) dX7_archive_2 ⟨Nat.le_of_ble_eq_true rfl, Nat.le_of_ble_eq_true rfl⟩) hS (fun _ h => h.elim) (fun locs hS => ?_)
  refine lv_astore_n (lv' := [(2, .ref (ad 4 i)), (0, .ref (ad 0 0)), (1, .int (nI i))]) hx hb dX7_archive_5 rfl hl (by decide) rfl (fun ls hl => ?_)
  refine lv_aload_n hx hb dX7_archive_6 rfl (lv_at hl 0 rfl) ?_
  refine q_getN (C := RX3) (T := TX3) (N := 8) hx hb hts iRX3 hown hC.1 (hW.to (qLV4 hi)) rfl 6 (by decide) (va_Nw.use rfl (qf_RX7_103 hC)) rfl (v := .int (nI (σ 69 i))) rfl dX7_archive_7 ?_
  refine lv_bipush (v := nI 107) hx hb dX7_archive_10 (by decide) ?_
  refine q_eq (tgt := 25) hx hb (q31 (hB _ _)) (by decide) dX7_archive_12 (by decide) (fun g1 => absurd g1 hk9) (fun g1 => ?_)
  exact q_thrS hx hb hst (cls := "java/lang/IllegalStateException") (text := "the line is not kept") hown (by decide) (hts (.classLink RX7 57 "java/lang/IllegalStateException") (List.mem_of_getElem? (i := 1) (by decide +kernel))) (hts (.initialized "java/lang/IllegalStateException") (List.mem_of_getElem? (i := 2) (by decide +kernel))) (hT _ (List.mem_of_getElem? (i := 3) rfl)) (fun w hw => hts w ((by decide +kernel : ∀ w ∈ (vx_atS RX7 61 "java/lang/IllegalStateException" qxn).filter goodWord, w ∈ wsX7_archive) w hw)) qxN_ISE qxG_ISE hC hZ hS hl.1 hml dX7_archive_15 dX7_archive_18 dX7_archive_19 dX7_archive_21 dX7_archive_24 htab (Nat.le_of_ble_eq_true rfl) (Nat.le_of_ble_eq_true rfl) (Nat.le_of_ble_eq_true rfl) (Nat.le_of_ble_eq_true rfl) hlocks
set_option maxHeartbeats 4000000 in
set_option maxRecDepth 100000 in
theorem x_answer1 (l : Launch) (hst : l.stackTraces = false) (G : QG) (es : Nat) (A : Nat → Prop) (σ ad : QSt) (hF : qWF σ) (x : Int32) (hx0 : ¬ rIn x (σ 0 4)) : vx_Met l yX7_answer wsX7_answer ({ frames := 6, cells := 1, slots := 6, locals := 82 } : Room) (qX G es A σ ad [.ref (ad 0 0), .int (x)]) qNR (qXX "java/util/NoSuchElementException") 1 6 A := by
  refine vx_ofW (cc := cX7_answer) (maxL := 3) (ret := (some .int)) (by decide) rfl ?_
  intro p e s m args below meth c s₁ B hml htab hv
  obtain ⟨rfl, hC, hW, hZ, hT⟩ := hv
  have hx := B.exec
  have hb := B.bytes
  have hts := atoms_spec (ws := wsX7_answer) B.pre
  have hown : s.vm.findClass RX7 = some m.cls := findClass_of_methodNamed B.named
  have hlocks := B.notSynchronized
  have hB := hF.1
  have hn := hF.n
  have hS : va_S A s.heap s.heap [] := va_S.rf
  have hl := lv_entry ([.ref (ad 0 0), .int (x)]) (n := 3) (Nat.le_of_ble_eq_true rfl)
  rw [lg_entry_eq]
  generalize (lg_sl ([.ref (ad 0 0), .int (x)]) ++ List.replicate (3 - (lg_sl ([.ref (ad 0 0), .int (x)])).length) Slot.unset).toArray = ls at hl ⊢
  have hl : lv_has ls 3 [(0, .ref (ad 0 0)), (1, .int (x))] := hl
  have iRX7 : ∀ w ∈ wsX70, w ∈ wsX7_answer := by decide +kernel
  refine lv_iload_n hx hb dX7_answer_0 rfl (lv_at hl 1 rfl) ?_
  refine lv_if_lt (tgt := 15) hx hb dX7_answer_1 (by decide) (fun g1 => ?_) (fun g1 => ?_)
  · skip
    exact q_thrS hx hb hst (cls := "java/util/NoSuchElementException") (text := "there is no such request") hown (by decide) (hts (.classLink RX7 178 "java/util/NoSuchElementException") (List.mem_of_getElem? (i := 1) (by decide +kernel))) (hts (.initialized "java/util/NoSuchElementException") (List.mem_of_getElem? (i := 2) (by decide +kernel))) (hT _ (List.mem_of_getElem? (i := 6) rfl)) (fun w hw => hts w ((by decide +kernel : ∀ w ∈ (vx_atS RX7 182 "java/util/NoSuchElementException" qxn).filter goodWord, w ∈ wsX7_answer) w hw)) qxN_NSE qxG_NSE hC hZ hS hl.1 hml dX7_answer_15 dX7_answer_18 dX7_answer_19 dX7_answer_21 dX7_answer_24 htab (Nat.le_of_ble_eq_true rfl) (Nat.le_of_ble_eq_true rfl) (Nat.le_of_ble_eq_true rfl) (Nat.le_of_ble_eq_true rfl) hlocks
  · skip
    refine lv_iload_n hx hb dX7_answer_4 rfl (lv_at hl 1 rfl) ?_
    refine lv_aload_n hx hb dX7_answer_5 rfl (lv_at hl 0 rfl) ?_
    refine q_get (C := RX7) (T := TX7) (N := 7) hx hb hts iRX7 hown hC.1 (hW.to qLV0) rfl 4 (by decide) (hts (.fieldLink RX7 25 "LogWeave" "requestList" "Ljava/util/ArrayList;") (List.mem_of_getElem? (i := 5) (by decide +kernel))) rfl (v := .ref (ad 1 4)) rfl dX7_answer_6 ?_
    refine q_v (va_runV (As := []) (rest := [.int (x)]) ⟨hx, hb, hml, hown, hts⟩ (m_size l G (ad 1 4) _ _ (nI (σ 0 4))) (cwV 0 hts gX7_answer_Jx4a65c_size_8abf5 rfl rfl rfl (by decide +kernel) ⟨Nat.le_of_ble_eq_true rfl, Nat.le_of_ble_eq_true rfl⟩) ⟨qO.blind, qrecv hC (hW.to (qLV1 (j := 4) (by decide))) rfl, qO.pre hC (hW.lob (by decide))⟩ rfl rfl hl.1 rfl (lv_room (Nat.le_of_ble_eq_true rfl)) dX7_answer_9 ⟨Nat.le_of_ble_eq_true rfl, Nat.le_of_ble_eq_true rfl⟩) hS (fun _ h => h.elim) (fun locs hS => ?_)
    refine lv_icmp_lt (tgt := 25) hx hb dX7_answer_12 (by decide) (fun g2 => (absurd (q_rin g1 g2 (hB _ _)) hx0)) (fun g2 => ?_)
    exact q_thrS hx hb hst (cls := "java/util/NoSuchElementException") (text := "there is no such request") hown (by decide) (hts (.classLink RX7 178 "java/util/NoSuchElementException") (List.mem_of_getElem? (i := 1) (by decide +kernel))) (hts (.initialized "java/util/NoSuchElementException") (List.mem_of_getElem? (i := 2) (by decide +kernel))) (hT _ (List.mem_of_getElem? (i := 6) rfl)) (fun w hw => hts w ((by decide +kernel : ∀ w ∈ (vx_atS RX7 182 "java/util/NoSuchElementException" qxn).filter goodWord, w ∈ wsX7_answer) w hw)) qxN_NSE qxG_NSE hC hZ hS hl.1 hml dX7_answer_15 dX7_answer_18 dX7_answer_19 dX7_answer_21 dX7_answer_24 htab (Nat.le_of_ble_eq_true rfl) (Nat.le_of_ble_eq_true rfl) (Nat.le_of_ble_eq_true rfl) (Nat.le_of_ble_eq_true rfl) hlocks
set_option maxHeartbeats 4000000 in
set_option maxRecDepth 100000 in
theorem x_answer2 (l : Launch) (hst : l.stackTraces = false) (G : QG) (es : Nat) (A : Nat → Prop) (σ ad : QSt) (hF : qWF σ) (i : Nat) (hi : i < σ 0 4) (h1 : σ 193 i = 0) : vx_Met l yX7_answer wsX7_answer ({ frames := 6, cells := 1, slots := 6, locals := 82 } : Room) (qX G es A σ ad [.ref (ad 0 0), .int (nI i)]) qNR (qXX "java/lang/IllegalStateException") 1 6 A := by
  refine vx_ofW (cc := cX7_answer) (maxL := 3) (ret := (some .int)) (by decide) rfl ?_
  intro p e s m args below meth c s₁ B hml htab hv
  obtain ⟨rfl, hC, hW, hZ, hT⟩ := hv
  have hx := B.exec
  have hb := B.bytes
  have hts := atoms_spec (ws := wsX7_answer) B.pre
  have hown : s.vm.findClass RX7 = some m.cls := findClass_of_methodNamed B.named
  have hlocks := B.notSynchronized
  have hB := hF.1
  have hn := hF.n
  have hS : va_S A s.heap s.heap [] := va_S.rf
  have hl := lv_entry ([.ref (ad 0 0), .int (nI i)]) (n := 3) (Nat.le_of_ble_eq_true rfl)
  rw [lg_entry_eq]
  generalize (lg_sl ([.ref (ad 0 0), .int (nI i)]) ++ List.replicate (3 - (lg_sl ([.ref (ad 0 0), .int (nI i)])).length) Slot.unset).toArray = ls at hl ⊢
  have hl : lv_has ls 3 [(0, .ref (ad 0 0)), (1, .int (nI i))] := hl
  have iRX7 : ∀ w ∈ wsX70, w ∈ wsX7_answer := by decide +kernel
  have iRX5 : ∀ w ∈ wsX50, w ∈ wsX7_answer := by decide +kernel
  refine lv_iload_n hx hb dX7_answer_0 rfl (lv_at hl 1 rfl) ?_
  refine q_lt0 (tgt := 15) hx hb (by omega) dX7_answer_1 (by decide) (fun g1 => g1.elim) (fun g1 => ?_)
  refine lv_iload_n hx hb dX7_answer_4 rfl (lv_at hl 1 rfl) ?_
  refine lv_aload_n hx hb dX7_answer_5 rfl (lv_at hl 0 rfl) ?_
  refine q_get (C := RX7) (T := TX7) (N := 7) hx hb hts iRX7 hown hC.1 (hW.to qLV0) rfl 4 (by decide) (hts (.fieldLink RX7 25 "LogWeave" "requestList" "Ljava/util/ArrayList;") (List.mem_of_getElem? (i := 5) (by decide +kernel))) rfl (v := .ref (ad 1 4)) rfl dX7_answer_6 ?_
  refine q_v (va_runV (As := []) (rest := [.int (nI i)]) ⟨hx, hb, hml, hown, hts⟩ (m_size l G (ad 1 4) _ _ (nI (σ 0 4))) (cwV 0 hts gX7_answer_Jx4a65c_size_8abf5 rfl rfl rfl (by decide +kernel) ⟨Nat.le_of_ble_eq_true rfl, Nat.le_of_ble_eq_true rfl⟩) ⟨qO.blind, qrecv hC (hW.to (qLV1 (j := 4) (by decide))) rfl, qO.pre hC (hW.lob (by decide))⟩ rfl rfl hl.1 rfl (lv_room (Nat.le_of_ble_eq_true rfl)) dX7_answer_9 ⟨Nat.le_of_ble_eq_true rfl, Nat.le_of_ble_eq_true rfl⟩) hS (fun _ h => h.elim) (fun locs hS => ?_)
  refine q_lt (tgt := 25) hx hb (by omega) (q31 (hB _ _)) dX7_answer_12 (by decide) (fun g2 => ?_) (fun g2 => (by omega))
  refine lv_aload_n hx hb dX7_answer_25 rfl (lv_at hl 0 rfl) ?_
  refine q_get (C := RX7) (T := TX7) (N := 7) hx hb hts iRX7 hown hC.1 (hW.to qLV0) rfl 4 (by decide) (hts (.fieldLink RX7 25 "LogWeave" "requestList" "Ljava/util/ArrayList;") (List.mem_of_getElem? (i := 5) (by decide +kernel))) rfl (v := .ref (ad 1 4)) rfl dX7_answer_26 ?_
  refine lv_iload_n hx hb dX7_answer_29 rfl (lv_at hl 1 rfl) ?_
  refine q_v (va_runV (As := [.int (nI i)]) (rest := []) ⟨hx, hb, hml, hown, hts⟩ (m_get l G (ad 1 4) (ad 2 4) (σ 32 4) (σ 0 4) (fun i => if i < σ 0 4 then some (ad (4 + 2 * 4) i) else none) (.int (nI (σ 16 4))) i (ad 12 i) hi (hF.c 4) (hB _ _) (if_pos hi)) (cwV 1 hts gX7_answer_Jx4a65c_get_915e3 rfl rfl rfl (by decide +kernel) ⟨Nat.le_of_ble_eq_true rfl, Nat.le_of_ble_eq_true rfl⟩) ⟨qO.blind, qrecv hC (hW.to (qLV1 (j := 4) (by decide))) rfl, qO.pre hC (hW.list hF (J := 4) (by decide) hi)⟩ rfl rfl hl.1 rfl (lv_room (Nat.le_of_ble_eq_true rfl)) dX7_answer_30 ⟨Nat.le_of_ble_eq_true rfl, Nat.le_of_ble_eq_true rfl⟩) hS (fun _ h => h.elim) (fun locs hS => ?_)
  refine va_castS hx hb hown (hts (.classLink RX7 173 "LogWeave$Request") (List.mem_of_getElem? (i := 6) (by decide +kernel))) (hC.1.1 8 _ rfl).2 (qrecv hC (hW.to (qLV12 hi)) rfl) dX7_answer_33 ?_
  refine lv_astore_n (lv' := [(2, .ref (ad 12 i)), (0, .ref (ad 0 0)), (1, .int (nI i))]) hx hb dX7_answer_36 rfl hl (by decide) rfl (fun ls hl => ?_)
  refine lv_aload_n hx hb dX7_answer_37 rfl (lv_at hl 0 rfl) ?_
  refine q_getN (C := RX5) (T := TX5) (N := 4) hx hb hts iRX5 hown hC.1 (hW.to (qLV12 hi)) rfl 2 (by decide) (va_Nw.use rfl (qf_RX7_183 hC)) rfl (v := .int (nI (σ 193 i))) rfl dX7_answer_38 ?_
  refine q_ne0 (tgt := 54) hx hb (q31 (hB _ _)) dX7_answer_41 (by decide) (fun g3 => absurd h1 g3) (fun g3 => ?_)
  exact q_thrS hx hb hst (cls := "java/lang/IllegalStateException") (text := "the request is not answered yet") hown (by decide) (hts (.classLink RX7 57 "java/lang/IllegalStateException") (List.mem_of_getElem? (i := 3) (by decide +kernel))) (hts (.initialized "java/lang/IllegalStateException") (List.mem_of_getElem? (i := 4) (by decide +kernel))) (hT _ (List.mem_of_getElem? (i := 7) rfl)) (fun w hw => hts w ((by decide +kernel : ∀ w ∈ (vx_atS RX7 61 "java/lang/IllegalStateException" qxn).filter goodWord, w ∈ wsX7_answer) w hw)) qxN_ISE qxG_ISE hC hZ hS hl.1 hml dX7_answer_44 dX7_answer_47 dX7_answer_48 dX7_answer_50 dX7_answer_53 htab (Nat.le_of_ble_eq_true rfl) (Nat.le_of_ble_eq_true rfl) (Nat.le_of_ble_eq_true rfl) (Nat.le_of_ble_eq_true rfl) hlocks
set_option maxHeartbeats 4000000 in
set_option maxRecDepth 100000 in
theorem x_request1 (l : Launch) (hst : l.stackTraces = false) (G : QG) (es : Nat) (A : Nat → Prop) (σ ad : QSt) (hF : qWF σ) (x y : Int32) (hbad : ¬ ((nI 0 ≤ x ∧ x ≤ nI 3) ∧ (nI 0 ≤ y ∧ y ≤ nI 4))) : vx_Met l yX7_request wsX7_request ({ frames := 6, cells := 1, slots := 6, locals := 82 } : Room) (qX G es A σ ad [.ref (ad 0 0), .int (x), .int (y)]) qNR (qXX "java/lang/IllegalArgumentException") 1 6 A := by
  refine vx_ofW (cc := cX7_request) (maxL := 5) (ret := (some .int)) (by decide) rfl ?_
  intro p e s m args below meth c s₁ B hml htab hv
  obtain ⟨rfl, hC, hW, hZ, hT⟩ := hv
  have hx := B.exec
  have hb := B.bytes
  have hts := atoms_spec (ws := wsX7_request) B.pre
  have hown : s.vm.findClass RX7 = some m.cls := findClass_of_methodNamed B.named
  have hlocks := B.notSynchronized
  have hB := hF.1
  have hn := hF.n
  have hS : va_S A s.heap s.heap [] := va_S.rf
  have hl := lv_entry ([.ref (ad 0 0), .int (x), .int (y)]) (n := 5) (Nat.le_of_ble_eq_true rfl)
  rw [lg_entry_eq]
  generalize (lg_sl ([.ref (ad 0 0), .int (x), .int (y)]) ++ List.replicate (5 - (lg_sl ([.ref (ad 0 0), .int (x), .int (y)])).length) Slot.unset).toArray = ls at hl ⊢
  have hl : lv_has ls 5 [(0, .ref (ad 0 0)), (1, .int (x)), (2, .int (y))] := hl
  refine lv_iload_n hx hb dX7_request_0 rfl (lv_at hl 1 rfl) ?_
  refine q_v (va_runS (As := [.int (x)]) (rest := []) ⟨hx, hb, hml, hown, hts⟩ (m_isSource l (x)) (va_cwS 1 hts gX7_request_X7_isSource rfl rfl rfl (by decide +kernel) ⟨Nat.le_of_ble_eq_true rfl, Nat.le_of_ble_eq_true rfl⟩) ⟨qU.blind, qU.pre⟩ rfl rfl hl.1 rfl (lv_room (Nat.le_of_ble_eq_true rfl)) dX7_request_1 ⟨Nat.le_of_ble_eq_true rfl, Nat.le_of_ble_eq_true rfl⟩) hS (fun _ h => h.elim) (fun locs hS => ?_)
  refine q_eq0 (tgt := 14) hx hb q_31B dX7_request_4 (by decide) (fun g1 => ?_) (fun g1 => ?_)
  · skip
    exact q_thrS hx hb hst (cls := "java/lang/IllegalArgumentException") (text := "the source or the rank is out of range") hown (by decide) (hts (.classLink RX7 46 "java/lang/IllegalArgumentException") (List.mem_of_getElem? (i := 1) (by decide +kernel))) (hts (.initialized "java/lang/IllegalArgumentException") (List.mem_of_getElem? (i := 2) (by decide +kernel))) (hT _ (List.mem_of_getElem? (i := 4) rfl)) (fun w hw => hts w ((by decide +kernel : ∀ w ∈ (vx_atS RX7 50 "java/lang/IllegalArgumentException" qxn).filter goodWord, w ∈ wsX7_request) w hw)) qxN_IAE qxG_IAE hC hZ hS hl.1 hml dX7_request_14 dX7_request_17 dX7_request_18 dX7_request_20 dX7_request_23 htab (Nat.le_of_ble_eq_true rfl) (Nat.le_of_ble_eq_true rfl) (Nat.le_of_ble_eq_true rfl) (Nat.le_of_ble_eq_true rfl) hlocks
  · skip
    refine lv_iload_n hx hb dX7_request_7 rfl (lv_at hl 2 rfl) ?_
    refine q_v (va_runS (As := [.int (y)]) (rest := []) ⟨hx, hb, hml, hown, hts⟩ (m_isRank l (y)) (va_cwS 1 hts gX7_request_X7_isRank rfl rfl rfl (by decide +kernel) ⟨Nat.le_of_ble_eq_true rfl, Nat.le_of_ble_eq_true rfl⟩) ⟨qU.blind, qU.pre⟩ rfl rfl hl.1 rfl (lv_room (Nat.le_of_ble_eq_true rfl)) dX7_request_8 ⟨Nat.le_of_ble_eq_true rfl, Nat.le_of_ble_eq_true rfl⟩) hS (fun _ h => h.elim) (fun locs hS => ?_)
    refine q_ne0 (tgt := 24) hx hb q_31B dX7_request_11 (by decide) (fun g2 => (absurd ⟨r_un g1, r_un g2⟩ hbad)) (fun g2 => ?_)
    exact q_thrS hx hb hst (cls := "java/lang/IllegalArgumentException") (text := "the source or the rank is out of range") hown (by decide) (hts (.classLink RX7 46 "java/lang/IllegalArgumentException") (List.mem_of_getElem? (i := 1) (by decide +kernel))) (hts (.initialized "java/lang/IllegalArgumentException") (List.mem_of_getElem? (i := 2) (by decide +kernel))) (hT _ (List.mem_of_getElem? (i := 4) rfl)) (fun w hw => hts w ((by decide +kernel : ∀ w ∈ (vx_atS RX7 50 "java/lang/IllegalArgumentException" qxn).filter goodWord, w ∈ wsX7_request) w hw)) qxN_IAE qxG_IAE hC hZ hS hl.1 hml dX7_request_14 dX7_request_17 dX7_request_18 dX7_request_20 dX7_request_23 htab (Nat.le_of_ble_eq_true rfl) (Nat.le_of_ble_eq_true rfl) (Nat.le_of_ble_eq_true rfl) (Nat.le_of_ble_eq_true rfl) hlocks
set_option maxHeartbeats 4000000 in
set_option maxRecDepth 100000 in
theorem x_request2 (l : Launch) (hst : l.stackTraces = false) (G : QG) (es : Nat) (A : Nat → Prop) (σ ad : QSt) (hF : qWF σ) (s0 r0 : Nat) (hs0 : s0 < 4) (hr0 : r0 < 5) (hn4 : σ 0 4 = 20) : vx_Met l yX7_request wsX7_request ({ frames := 6, cells := 1, slots := 6, locals := 82 } : Room) (qX G es A σ ad [.ref (ad 0 0), .int (nI s0), .int (nI r0)]) qNR (qXX "java/lang/IllegalStateException") 1 6 A := by
  refine vx_ofW (cc := cX7_request) (maxL := 5) (ret := (some .int)) (by decide) rfl ?_
  intro p e s m args below meth c s₁ B hml htab hv
  obtain ⟨rfl, hC, hW, hZ, hT⟩ := hv
  have hx := B.exec
  have hb := B.bytes
  have hts := atoms_spec (ws := wsX7_request) B.pre
  have hown : s.vm.findClass RX7 = some m.cls := findClass_of_methodNamed B.named
  have hlocks := B.notSynchronized
  have hB := hF.1
  have hn := hF.n
  have hS : va_S A s.heap s.heap [] := va_S.rf
  have hl := lv_entry ([.ref (ad 0 0), .int (nI s0), .int (nI r0)]) (n := 5) (Nat.le_of_ble_eq_true rfl)
  rw [lg_entry_eq]
  generalize (lg_sl ([.ref (ad 0 0), .int (nI s0), .int (nI r0)]) ++ List.replicate (5 - (lg_sl ([.ref (ad 0 0), .int (nI s0), .int (nI r0)])).length) Slot.unset).toArray = ls at hl ⊢
  have hl : lv_has ls 5 [(0, .ref (ad 0 0)), (1, .int (nI s0)), (2, .int (nI r0))] := hl
  have iRX7 : ∀ w ∈ wsX70, w ∈ wsX7_request := by decide +kernel
  refine lv_iload_n hx hb dX7_request_0 rfl (lv_at hl 1 rfl) ?_
  refine q_v (va_runS (As := [.int (nI s0)]) (rest := []) ⟨hx, hb, hml, hown, hts⟩ (m_isSource l (nI s0)) (va_cwS 1 hts gX7_request_X7_isSource rfl rfl rfl (by decide +kernel) ⟨Nat.le_of_ble_eq_true rfl, Nat.le_of_ble_eq_true rfl⟩) ⟨qU.blind, qU.pre⟩ rfl rfl hl.1 rfl (lv_room (Nat.le_of_ble_eq_true rfl)) dX7_request_1 ⟨Nat.le_of_ble_eq_true rfl, Nat.le_of_ble_eq_true rfl⟩) hS (fun _ h => h.elim) (fun locs hS => ?_)
  refine q_ti (y := nI 1) (by rw [qB_t (⟨nI_le (by omega) (by omega), nI_le (by omega) (by decide)⟩ : nI 0 ≤ nI s0 ∧ nI s0 ≤ nI 3)]) ?_
  refine q_eq0 (tgt := 14) hx hb (by decide) dX7_request_4 (by decide) (fun g1 => absurd g1 (by decide)) (fun g1 => ?_)
  refine lv_iload_n hx hb dX7_request_7 rfl (lv_at hl 2 rfl) ?_
  refine q_v (va_runS (As := [.int (nI r0)]) (rest := []) ⟨hx, hb, hml, hown, hts⟩ (m_isRank l (nI r0)) (va_cwS 1 hts gX7_request_X7_isRank rfl rfl rfl (by decide +kernel) ⟨Nat.le_of_ble_eq_true rfl, Nat.le_of_ble_eq_true rfl⟩) ⟨qU.blind, qU.pre⟩ rfl rfl hl.1 rfl (lv_room (Nat.le_of_ble_eq_true rfl)) dX7_request_8 ⟨Nat.le_of_ble_eq_true rfl, Nat.le_of_ble_eq_true rfl⟩) hS (fun _ h => h.elim) (fun locs hS => ?_)
  refine q_ti (y := nI 1) (by rw [qB_t (⟨nI_le (by omega) (by omega), nI_le (by omega) (by decide)⟩ : nI 0 ≤ nI r0 ∧ nI r0 ≤ nI 4)]) ?_
  refine q_ne0 (tgt := 24) hx hb (by decide) dX7_request_11 (by decide) (fun g2 => ?_) (fun g2 => absurd g2 (by decide))
  refine lv_aload_n hx hb dX7_request_24 rfl (lv_at hl 0 rfl) ?_
  refine q_get (C := RX7) (T := TX7) (N := 7) hx hb hts iRX7 hown hC.1 (hW.to qLV0) rfl 4 (by decide) (hts (.fieldLink RX7 25 "LogWeave" "requestList" "Ljava/util/ArrayList;") (List.mem_of_getElem? (i := 5) (by decide +kernel))) rfl (v := .ref (ad 1 4)) rfl dX7_request_25 ?_
  refine q_v (va_runV (As := []) (rest := []) ⟨hx, hb, hml, hown, hts⟩ (m_size l G (ad 1 4) _ _ (nI (σ 0 4))) (cwV 0 hts gX7_request_Jx4a65c_size_8abf5 rfl rfl rfl (by decide +kernel) ⟨Nat.le_of_ble_eq_true rfl, Nat.le_of_ble_eq_true rfl⟩) ⟨qO.blind, qrecv hC (hW.to (qLV1 (j := 4) (by decide))) rfl, qO.pre hC (hW.lob (by decide))⟩ rfl rfl hl.1 rfl (lv_room (Nat.le_of_ble_eq_true rfl)) dX7_request_28 ⟨Nat.le_of_ble_eq_true rfl, Nat.le_of_ble_eq_true rfl⟩) hS (fun _ h => h.elim) (fun locs hS => ?_)
  refine lv_bipush (v := nI 20) hx hb dX7_request_31 (by decide) ?_
  refine q_lt (tgt := 46) hx hb (q31 (hB _ _)) (by decide) dX7_request_33 (by decide) (fun g9 => (by omega)) (fun g9 => ?_)
  exact q_thrS hx hb hst (cls := "java/lang/IllegalStateException") (text := "all requests were made") hown (by decide) (hts (.classLink RX7 57 "java/lang/IllegalStateException") (List.mem_of_getElem? (i := 3) (by decide +kernel))) (hts (.initialized "java/lang/IllegalStateException") (List.mem_of_getElem? (i := 4) (by decide +kernel))) (hT _ (List.mem_of_getElem? (i := 5) rfl)) (fun w hw => hts w ((by decide +kernel : ∀ w ∈ (vx_atS RX7 61 "java/lang/IllegalStateException" qxn).filter goodWord, w ∈ wsX7_request) w hw)) qxN_ISE qxG_ISE hC hZ hS hl.1 hml dX7_request_36 dX7_request_39 dX7_request_40 dX7_request_42 dX7_request_45 htab (Nat.le_of_ble_eq_true rfl) (Nat.le_of_ble_eq_true rfl) (Nat.le_of_ble_eq_true rfl) (Nat.le_of_ble_eq_true rfl) hlocks
set_option maxHeartbeats 4000000 in
set_option maxRecDepth 100000 in
theorem x_addLine1 (l : Launch) (hst : l.stackTraces = false) (G : QG) (es : Nat) (A : Nat → Prop) (σ ad : QSt) (hF : qWF σ) (x0 x1 x2 x3 x4 x5 : Int32) (hbad : ¬ ((nI 0 ≤ x0 ∧ x0 ≤ nI 3) ∧ (nI 0 ≤ x1 ∧ x1 ≤ nI 4) ∧ (nI 0 ≤ x2 ∧ x2 ≤ nI 99) ∧ (nI 0 ≤ x3 ∧ x3 ≤ nI 99) ∧ (nI 0 ≤ x4 ∧ x4 ≤ nI 99) ∧ (nI 1 ≤ x5 ∧ x5 ≤ nI 99))) : vx_Met l yX7_addLine wsX7_addLine ({ frames := 6, cells := 1, slots := 6, locals := 82 } : Room) (qX G es A σ ad [.ref (ad 0 0), .int (x0), .int (x1), .int (x2), .int (x3), .int (x4), .int (x5)]) qNR (qXX "java/lang/IllegalArgumentException") 1 6 A := by
  refine vx_ofW (cc := cX7_addLine) (maxL := 12) (ret := (some .int)) (by decide) rfl ?_
  intro p e s m args below meth c s₁ B hml htab hv
  obtain ⟨rfl, hC, hW, hZ, hT⟩ := hv
  have hx := B.exec
  have hb := B.bytes
  have hts := atoms_spec (ws := wsX7_addLine) B.pre
  have hown : s.vm.findClass RX7 = some m.cls := findClass_of_methodNamed B.named
  have hlocks := B.notSynchronized
  have hB := hF.1
  have hn := hF.n
  have hS : va_S A s.heap s.heap [] := va_S.rf
  have hl := lv_entry ([.ref (ad 0 0), .int (x0), .int (x1), .int (x2), .int (x3), .int (x4), .int (x5)]) (n := 12) (Nat.le_of_ble_eq_true rfl)
  rw [lg_entry_eq]
  generalize (lg_sl ([.ref (ad 0 0), .int (x0), .int (x1), .int (x2), .int (x3), .int (x4), .int (x5)]) ++ List.replicate (12 - (lg_sl ([.ref (ad 0 0), .int (x0), .int (x1), .int (x2), .int (x3), .int (x4), .int (x5)])).length) Slot.unset).toArray = ls at hl ⊢
  have hl : lv_has ls 12 [(0, .ref (ad 0 0)), (1, .int (x0)), (2, .int (x1)), (3, .int (x2)), (4, .int (x3)), (5, .int (x4)), (6, .int (x5))] := hl
  refine lv_iload_n hx hb dX7_addLine_0 rfl (lv_at hl 1 rfl) ?_
  refine q_v (va_runS (As := [.int (x0)]) (rest := []) ⟨hx, hb, hml, hown, hts⟩ (m_isSource l (x0)) (va_cwS 1 hts gX7_addLine_X7_isSource rfl rfl rfl (by decide +kernel) ⟨Nat.le_of_ble_eq_true rfl, Nat.le_of_ble_eq_true rfl⟩) ⟨qU.blind, qU.pre⟩ rfl rfl hl.1 rfl (lv_room (Nat.le_of_ble_eq_true rfl)) dX7_addLine_1 ⟨Nat.le_of_ble_eq_true rfl, Nat.le_of_ble_eq_true rfl⟩) hS (fun _ h => h.elim) (fun locs hS => ?_)
  refine q_eq0 (tgt := 48) hx hb q_31B dX7_addLine_4 (by decide) (fun g1 => ?_) (fun g1 => ?_)
  · skip
    exact q_thrS hx hb hst (cls := "java/lang/IllegalArgumentException") (text := "a number of the line is out of range") hown (by decide) (hts (.classLink RX7 46 "java/lang/IllegalArgumentException") (List.mem_of_getElem? (i := 1) (by decide +kernel))) (hts (.initialized "java/lang/IllegalArgumentException") (List.mem_of_getElem? (i := 2) (by decide +kernel))) (hT _ (List.mem_of_getElem? (i := 0) rfl)) (fun w hw => hts w ((by decide +kernel : ∀ w ∈ (vx_atS RX7 50 "java/lang/IllegalArgumentException" qxn).filter goodWord, w ∈ wsX7_addLine) w hw)) qxN_IAE qxG_IAE hC hZ hS hl.1 hml dX7_addLine_48 dX7_addLine_51 dX7_addLine_52 dX7_addLine_54 dX7_addLine_57 htab (Nat.le_of_ble_eq_true rfl) (Nat.le_of_ble_eq_true rfl) (Nat.le_of_ble_eq_true rfl) (Nat.le_of_ble_eq_true rfl) hlocks
  · skip
    refine lv_iload_n hx hb dX7_addLine_7 rfl (lv_at hl 2 rfl) ?_
    refine q_v (va_runS (As := [.int (x1)]) (rest := []) ⟨hx, hb, hml, hown, hts⟩ (m_isRank l (x1)) (va_cwS 1 hts gX7_addLine_X7_isRank rfl rfl rfl (by decide +kernel) ⟨Nat.le_of_ble_eq_true rfl, Nat.le_of_ble_eq_true rfl⟩) ⟨qU.blind, qU.pre⟩ rfl rfl hl.1 rfl (lv_room (Nat.le_of_ble_eq_true rfl)) dX7_addLine_8 ⟨Nat.le_of_ble_eq_true rfl, Nat.le_of_ble_eq_true rfl⟩) hS (fun _ h => h.elim) (fun locs hS => ?_)
    refine q_eq0 (tgt := 48) hx hb q_31B dX7_addLine_11 (by decide) (fun g2 => ?_) (fun g2 => ?_)
    · skip
      exact q_thrS hx hb hst (cls := "java/lang/IllegalArgumentException") (text := "a number of the line is out of range") hown (by decide) (hts (.classLink RX7 46 "java/lang/IllegalArgumentException") (List.mem_of_getElem? (i := 1) (by decide +kernel))) (hts (.initialized "java/lang/IllegalArgumentException") (List.mem_of_getElem? (i := 2) (by decide +kernel))) (hT _ (List.mem_of_getElem? (i := 0) rfl)) (fun w hw => hts w ((by decide +kernel : ∀ w ∈ (vx_atS RX7 50 "java/lang/IllegalArgumentException" qxn).filter goodWord, w ∈ wsX7_addLine) w hw)) qxN_IAE qxG_IAE hC hZ hS hl.1 hml dX7_addLine_48 dX7_addLine_51 dX7_addLine_52 dX7_addLine_54 dX7_addLine_57 htab (Nat.le_of_ble_eq_true rfl) (Nat.le_of_ble_eq_true rfl) (Nat.le_of_ble_eq_true rfl) (Nat.le_of_ble_eq_true rfl) hlocks
    · skip
      refine lv_iload_n hx hb dX7_addLine_14 rfl (lv_at hl 3 rfl) ?_
      refine q_v (va_runS (As := [.int (x2)]) (rest := []) ⟨hx, hb, hml, hown, hts⟩ (m_isWord l (x2)) (va_cwS 1 hts gX7_addLine_X7_isWord rfl rfl rfl (by decide +kernel) ⟨Nat.le_of_ble_eq_true rfl, Nat.le_of_ble_eq_true rfl⟩) ⟨qU.blind, qU.pre⟩ rfl rfl hl.1 rfl (lv_room (Nat.le_of_ble_eq_true rfl)) dX7_addLine_15 ⟨Nat.le_of_ble_eq_true rfl, Nat.le_of_ble_eq_true rfl⟩) hS (fun _ h => h.elim) (fun locs hS => ?_)
      refine q_eq0 (tgt := 48) hx hb q_31B dX7_addLine_18 (by decide) (fun g3 => ?_) (fun g3 => ?_)
      · skip
        exact q_thrS hx hb hst (cls := "java/lang/IllegalArgumentException") (text := "a number of the line is out of range") hown (by decide) (hts (.classLink RX7 46 "java/lang/IllegalArgumentException") (List.mem_of_getElem? (i := 1) (by decide +kernel))) (hts (.initialized "java/lang/IllegalArgumentException") (List.mem_of_getElem? (i := 2) (by decide +kernel))) (hT _ (List.mem_of_getElem? (i := 0) rfl)) (fun w hw => hts w ((by decide +kernel : ∀ w ∈ (vx_atS RX7 50 "java/lang/IllegalArgumentException" qxn).filter goodWord, w ∈ wsX7_addLine) w hw)) qxN_IAE qxG_IAE hC hZ hS hl.1 hml dX7_addLine_48 dX7_addLine_51 dX7_addLine_52 dX7_addLine_54 dX7_addLine_57 htab (Nat.le_of_ble_eq_true rfl) (Nat.le_of_ble_eq_true rfl) (Nat.le_of_ble_eq_true rfl) (Nat.le_of_ble_eq_true rfl) hlocks
      · skip
        refine lv_iload hx hb dX7_addLine_21 (lv_at hl 4 rfl) ?_
        refine q_v (va_runS (As := [.int (x3)]) (rest := []) ⟨hx, hb, hml, hown, hts⟩ (m_isWord l (x3)) (va_cwS 1 hts gX7_addLine_X7_isWord rfl rfl rfl (by decide +kernel) ⟨Nat.le_of_ble_eq_true rfl, Nat.le_of_ble_eq_true rfl⟩) ⟨qU.blind, qU.pre⟩ rfl rfl hl.1 rfl (lv_room (Nat.le_of_ble_eq_true rfl)) dX7_addLine_23 ⟨Nat.le_of_ble_eq_true rfl, Nat.le_of_ble_eq_true rfl⟩) hS (fun _ h => h.elim) (fun locs hS => ?_)
        refine q_eq0 (tgt := 48) hx hb q_31B dX7_addLine_26 (by decide) (fun g4 => ?_) (fun g4 => ?_)
        · skip
          exact q_thrS hx hb hst (cls := "java/lang/IllegalArgumentException") (text := "a number of the line is out of range") hown (by decide) (hts (.classLink RX7 46 "java/lang/IllegalArgumentException") (List.mem_of_getElem? (i := 1) (by decide +kernel))) (hts (.initialized "java/lang/IllegalArgumentException") (List.mem_of_getElem? (i := 2) (by decide +kernel))) (hT _ (List.mem_of_getElem? (i := 0) rfl)) (fun w hw => hts w ((by decide +kernel : ∀ w ∈ (vx_atS RX7 50 "java/lang/IllegalArgumentException" qxn).filter goodWord, w ∈ wsX7_addLine) w hw)) qxN_IAE qxG_IAE hC hZ hS hl.1 hml dX7_addLine_48 dX7_addLine_51 dX7_addLine_52 dX7_addLine_54 dX7_addLine_57 htab (Nat.le_of_ble_eq_true rfl) (Nat.le_of_ble_eq_true rfl) (Nat.le_of_ble_eq_true rfl) (Nat.le_of_ble_eq_true rfl) hlocks
        · skip
          refine lv_iload hx hb dX7_addLine_29 (lv_at hl 5 rfl) ?_
          refine q_v (va_runS (As := [.int (x4)]) (rest := []) ⟨hx, hb, hml, hown, hts⟩ (m_isWord l (x4)) (va_cwS 1 hts gX7_addLine_X7_isWord rfl rfl rfl (by decide +kernel) ⟨Nat.le_of_ble_eq_true rfl, Nat.le_of_ble_eq_true rfl⟩) ⟨qU.blind, qU.pre⟩ rfl rfl hl.1 rfl (lv_room (Nat.le_of_ble_eq_true rfl)) dX7_addLine_31 ⟨Nat.le_of_ble_eq_true rfl, Nat.le_of_ble_eq_true rfl⟩) hS (fun _ h => h.elim) (fun locs hS => ?_)
          refine q_eq0 (tgt := 48) hx hb q_31B dX7_addLine_34 (by decide) (fun g5 => ?_) (fun g5 => ?_)
          · skip
            exact q_thrS hx hb hst (cls := "java/lang/IllegalArgumentException") (text := "a number of the line is out of range") hown (by decide) (hts (.classLink RX7 46 "java/lang/IllegalArgumentException") (List.mem_of_getElem? (i := 1) (by decide +kernel))) (hts (.initialized "java/lang/IllegalArgumentException") (List.mem_of_getElem? (i := 2) (by decide +kernel))) (hT _ (List.mem_of_getElem? (i := 0) rfl)) (fun w hw => hts w ((by decide +kernel : ∀ w ∈ (vx_atS RX7 50 "java/lang/IllegalArgumentException" qxn).filter goodWord, w ∈ wsX7_addLine) w hw)) qxN_IAE qxG_IAE hC hZ hS hl.1 hml dX7_addLine_48 dX7_addLine_51 dX7_addLine_52 dX7_addLine_54 dX7_addLine_57 htab (Nat.le_of_ble_eq_true rfl) (Nat.le_of_ble_eq_true rfl) (Nat.le_of_ble_eq_true rfl) (Nat.le_of_ble_eq_true rfl) hlocks
          · skip
            refine lv_iload hx hb dX7_addLine_37 (lv_at hl 6 rfl) ?_
            refine lv_iconst (v := nI 1) hx hb dX7_addLine_39 (by decide) ?_
            refine lv_bipush (v := nI 99) hx hb dX7_addLine_40 (by decide) ?_
            refine q_v (va_runS (As := [.int (x5), .int (nI 1), .int (nI 99)]) (rest := []) ⟨hx, hb, hml, hown, hts⟩ (m_isWithin l (x5) (nI 1) (nI 99)) (va_cwS 3 hts gX7_addLine_X7_isWithin rfl rfl rfl (by decide +kernel) ⟨Nat.le_of_ble_eq_true rfl, Nat.le_of_ble_eq_true rfl⟩) ⟨qU.blind, qU.pre⟩ rfl rfl hl.1 rfl (lv_room (Nat.le_of_ble_eq_true rfl)) dX7_addLine_42 ⟨Nat.le_of_ble_eq_true rfl, Nat.le_of_ble_eq_true rfl⟩) hS (fun _ h => h.elim) (fun locs hS => ?_)
            refine q_ne0 (tgt := 58) hx hb q_31B dX7_addLine_45 (by decide) (fun g6 => (absurd ⟨r_un g1, r_un g2, r_un g3, r_un g4, r_un g5, r_un g6⟩ hbad)) (fun g6 => ?_)
            exact q_thrS hx hb hst (cls := "java/lang/IllegalArgumentException") (text := "a number of the line is out of range") hown (by decide) (hts (.classLink RX7 46 "java/lang/IllegalArgumentException") (List.mem_of_getElem? (i := 1) (by decide +kernel))) (hts (.initialized "java/lang/IllegalArgumentException") (List.mem_of_getElem? (i := 2) (by decide +kernel))) (hT _ (List.mem_of_getElem? (i := 0) rfl)) (fun w hw => hts w ((by decide +kernel : ∀ w ∈ (vx_atS RX7 50 "java/lang/IllegalArgumentException" qxn).filter goodWord, w ∈ wsX7_addLine) w hw)) qxN_IAE qxG_IAE hC hZ hS hl.1 hml dX7_addLine_48 dX7_addLine_51 dX7_addLine_52 dX7_addLine_54 dX7_addLine_57 htab (Nat.le_of_ble_eq_true rfl) (Nat.le_of_ble_eq_true rfl) (Nat.le_of_ble_eq_true rfl) (Nat.le_of_ble_eq_true rfl) hlocks
set_option maxHeartbeats 4000000 in
set_option maxRecDepth 100000 in
theorem x_addLine2 (l : Launch) (hst : l.stackTraces = false) (G : QG) (es : Nat) (A : Nat → Prop) (σ ad : QSt) (hF : qWF σ) (s0 r0 y1 y2 y3 b0 : Nat) (hs0 : s0 < 4) (hr0 : r0 < 5) (hy1 : y1 < 100) (hy2 : y2 < 100) (hy3 : y3 < 100) (hb0 : 1 ≤ b0 ∧ b0 ≤ 99) (hn0 : σ 0 0 = 200) : vx_Met l yX7_addLine wsX7_addLine ({ frames := 6, cells := 1, slots := 6, locals := 82 } : Room) (qX G es A σ ad [.ref (ad 0 0), .int (nI s0), .int (nI r0), .int (nI y1), .int (nI y2), .int (nI y3), .int (nI b0)]) qNR (qXX "java/lang/IllegalStateException") 1 6 A := by
  refine vx_ofW (cc := cX7_addLine) (maxL := 12) (ret := (some .int)) (by decide) rfl ?_
  intro p e s m args below meth c s₁ B hml htab hv
  obtain ⟨rfl, hC, hW, hZ, hT⟩ := hv
  have hx := B.exec
  have hb := B.bytes
  have hts := atoms_spec (ws := wsX7_addLine) B.pre
  have hown : s.vm.findClass RX7 = some m.cls := findClass_of_methodNamed B.named
  have hlocks := B.notSynchronized
  have hB := hF.1
  have hn := hF.n
  have hS : va_S A s.heap s.heap [] := va_S.rf
  have hl := lv_entry ([.ref (ad 0 0), .int (nI s0), .int (nI r0), .int (nI y1), .int (nI y2), .int (nI y3), .int (nI b0)]) (n := 12) (Nat.le_of_ble_eq_true rfl)
  rw [lg_entry_eq]
  generalize (lg_sl ([.ref (ad 0 0), .int (nI s0), .int (nI r0), .int (nI y1), .int (nI y2), .int (nI y3), .int (nI b0)]) ++ List.replicate (12 - (lg_sl ([.ref (ad 0 0), .int (nI s0), .int (nI r0), .int (nI y1), .int (nI y2), .int (nI y3), .int (nI b0)])).length) Slot.unset).toArray = ls at hl ⊢
  have hl : lv_has ls 12 [(0, .ref (ad 0 0)), (1, .int (nI s0)), (2, .int (nI r0)), (3, .int (nI y1)), (4, .int (nI y2)), (5, .int (nI y3)), (6, .int (nI b0))] := hl
  have iRX7 : ∀ w ∈ wsX70, w ∈ wsX7_addLine := by decide +kernel
  refine lv_iload_n hx hb dX7_addLine_0 rfl (lv_at hl 1 rfl) ?_
  refine q_v (va_runS (As := [.int (nI s0)]) (rest := []) ⟨hx, hb, hml, hown, hts⟩ (m_isSource l (nI s0)) (va_cwS 1 hts gX7_addLine_X7_isSource rfl rfl rfl (by decide +kernel) ⟨Nat.le_of_ble_eq_true rfl, Nat.le_of_ble_eq_true rfl⟩) ⟨qU.blind, qU.pre⟩ rfl rfl hl.1 rfl (lv_room (Nat.le_of_ble_eq_true rfl)) dX7_addLine_1 ⟨Nat.le_of_ble_eq_true rfl, Nat.le_of_ble_eq_true rfl⟩) hS (fun _ h => h.elim) (fun locs hS => ?_)
  refine q_ti (y := nI 1) (by rw [qB_t (⟨nI_le (by omega) (by omega), nI_le (by omega) (by decide)⟩ : nI 0 ≤ nI s0 ∧ nI s0 ≤ nI 3)]) ?_
  refine q_eq0 (tgt := 48) hx hb (by decide) dX7_addLine_4 (by decide) (fun g1 => absurd g1 (by decide)) (fun g1 => ?_)
  refine lv_iload_n hx hb dX7_addLine_7 rfl (lv_at hl 2 rfl) ?_
  refine q_v (va_runS (As := [.int (nI r0)]) (rest := []) ⟨hx, hb, hml, hown, hts⟩ (m_isRank l (nI r0)) (va_cwS 1 hts gX7_addLine_X7_isRank rfl rfl rfl (by decide +kernel) ⟨Nat.le_of_ble_eq_true rfl, Nat.le_of_ble_eq_true rfl⟩) ⟨qU.blind, qU.pre⟩ rfl rfl hl.1 rfl (lv_room (Nat.le_of_ble_eq_true rfl)) dX7_addLine_8 ⟨Nat.le_of_ble_eq_true rfl, Nat.le_of_ble_eq_true rfl⟩) hS (fun _ h => h.elim) (fun locs hS => ?_)
  refine q_ti (y := nI 1) (by rw [qB_t (⟨nI_le (by omega) (by omega), nI_le (by omega) (by decide)⟩ : nI 0 ≤ nI r0 ∧ nI r0 ≤ nI 4)]) ?_
  refine q_eq0 (tgt := 48) hx hb (by decide) dX7_addLine_11 (by decide) (fun g2 => absurd g2 (by decide)) (fun g2 => ?_)
  refine lv_iload_n hx hb dX7_addLine_14 rfl (lv_at hl 3 rfl) ?_
  refine q_v (va_runS (As := [.int (nI y1)]) (rest := []) ⟨hx, hb, hml, hown, hts⟩ (m_isWord l (nI y1)) (va_cwS 1 hts gX7_addLine_X7_isWord rfl rfl rfl (by decide +kernel) ⟨Nat.le_of_ble_eq_true rfl, Nat.le_of_ble_eq_true rfl⟩) ⟨qU.blind, qU.pre⟩ rfl rfl hl.1 rfl (lv_room (Nat.le_of_ble_eq_true rfl)) dX7_addLine_15 ⟨Nat.le_of_ble_eq_true rfl, Nat.le_of_ble_eq_true rfl⟩) hS (fun _ h => h.elim) (fun locs hS => ?_)
  refine q_ti (y := nI 1) (by rw [qB_t (⟨nI_le (by omega) (by omega), nI_le (by omega) (by decide)⟩ : nI 0 ≤ nI y1 ∧ nI y1 ≤ nI 99)]) ?_
  refine q_eq0 (tgt := 48) hx hb (by decide) dX7_addLine_18 (by decide) (fun g3 => absurd g3 (by decide)) (fun g3 => ?_)
  refine lv_iload hx hb dX7_addLine_21 (lv_at hl 4 rfl) ?_
  refine q_v (va_runS (As := [.int (nI y2)]) (rest := []) ⟨hx, hb, hml, hown, hts⟩ (m_isWord l (nI y2)) (va_cwS 1 hts gX7_addLine_X7_isWord rfl rfl rfl (by decide +kernel) ⟨Nat.le_of_ble_eq_true rfl, Nat.le_of_ble_eq_true rfl⟩) ⟨qU.blind, qU.pre⟩ rfl rfl hl.1 rfl (lv_room (Nat.le_of_ble_eq_true rfl)) dX7_addLine_23 ⟨Nat.le_of_ble_eq_true rfl, Nat.le_of_ble_eq_true rfl⟩) hS (fun _ h => h.elim) (fun locs hS => ?_)
  refine q_ti (y := nI 1) (by rw [qB_t (⟨nI_le (by omega) (by omega), nI_le (by omega) (by decide)⟩ : nI 0 ≤ nI y2 ∧ nI y2 ≤ nI 99)]) ?_
  refine q_eq0 (tgt := 48) hx hb (by decide) dX7_addLine_26 (by decide) (fun g4 => absurd g4 (by decide)) (fun g4 => ?_)
  refine lv_iload hx hb dX7_addLine_29 (lv_at hl 5 rfl) ?_
  refine q_v (va_runS (As := [.int (nI y3)]) (rest := []) ⟨hx, hb, hml, hown, hts⟩ (m_isWord l (nI y3)) (va_cwS 1 hts gX7_addLine_X7_isWord rfl rfl rfl (by decide +kernel) ⟨Nat.le_of_ble_eq_true rfl, Nat.le_of_ble_eq_true rfl⟩) ⟨qU.blind, qU.pre⟩ rfl rfl hl.1 rfl (lv_room (Nat.le_of_ble_eq_true rfl)) dX7_addLine_31 ⟨Nat.le_of_ble_eq_true rfl, Nat.le_of_ble_eq_true rfl⟩) hS (fun _ h => h.elim) (fun locs hS => ?_)
  refine q_ti (y := nI 1) (by rw [qB_t (⟨nI_le (by omega) (by omega), nI_le (by omega) (by decide)⟩ : nI 0 ≤ nI y3 ∧ nI y3 ≤ nI 99)]) ?_
  refine q_eq0 (tgt := 48) hx hb (by decide) dX7_addLine_34 (by decide) (fun g5 => absurd g5 (by decide)) (fun g5 => ?_)
  refine lv_iload hx hb dX7_addLine_37 (lv_at hl 6 rfl) ?_
  refine lv_iconst (v := nI 1) hx hb dX7_addLine_39 (by decide) ?_
  refine lv_bipush (v := nI 99) hx hb dX7_addLine_40 (by decide) ?_
  refine q_v (va_runS (As := [.int (nI b0), .int (nI 1), .int (nI 99)]) (rest := []) ⟨hx, hb, hml, hown, hts⟩ (m_isWithin l (nI b0) (nI 1) (nI 99)) (va_cwS 3 hts gX7_addLine_X7_isWithin rfl rfl rfl (by decide +kernel) ⟨Nat.le_of_ble_eq_true rfl, Nat.le_of_ble_eq_true rfl⟩) ⟨qU.blind, qU.pre⟩ rfl rfl hl.1 rfl (lv_room (Nat.le_of_ble_eq_true rfl)) dX7_addLine_42 ⟨Nat.le_of_ble_eq_true rfl, Nat.le_of_ble_eq_true rfl⟩) hS (fun _ h => h.elim) (fun locs hS => ?_)
  refine q_ti (y := nI 1) (by rw [qB_t (⟨nI_le (by omega) (by omega), nI_le (by omega) (by decide)⟩ : nI 1 ≤ nI b0 ∧ nI b0 ≤ nI 99)]) ?_
  refine q_ne0 (tgt := 58) hx hb (by decide) dX7_addLine_45 (by decide) (fun g6 => ?_) (fun g6 => absurd g6 (by decide))
  refine lv_aload_n hx hb dX7_addLine_58 rfl (lv_at hl 0 rfl) ?_
  refine q_get (C := RX7) (T := TX7) (N := 7) hx hb hts iRX7 hown hC.1 (hW.to qLV0) rfl 0 (by decide) (hts (.fieldLink RX7 10 "LogWeave" "lineList" "Ljava/util/ArrayList;") (List.mem_of_getElem? (i := 5) (by decide +kernel))) rfl (v := .ref (ad 1 0)) rfl dX7_addLine_59 ?_
  refine q_v (va_runV (As := []) (rest := []) ⟨hx, hb, hml, hown, hts⟩ (m_size l G (ad 1 0) _ _ (nI (σ 0 0))) (cwV 0 hts gX7_addLine_Jx4a65c_size_8abf5 rfl rfl rfl (by decide +kernel) ⟨Nat.le_of_ble_eq_true rfl, Nat.le_of_ble_eq_true rfl⟩) ⟨qO.blind, qrecv hC (hW.to (qLV1 (j := 0) (by decide))) rfl, qO.pre hC (hW.lob (by decide))⟩ rfl rfl hl.1 rfl (lv_room (Nat.le_of_ble_eq_true rfl)) dX7_addLine_62 ⟨Nat.le_of_ble_eq_true rfl, Nat.le_of_ble_eq_true rfl⟩) hS (fun _ h => h.elim) (fun locs hS => ?_)
  refine lv_sipush (v := nI 200) hx hb dX7_addLine_65 (by decide) ?_
  refine q_lt (tgt := 81) hx hb (q31 (hB _ _)) (by decide) dX7_addLine_68 (by decide) (fun g9 => (by omega)) (fun g9 => ?_)
  exact q_thrS hx hb hst (cls := "java/lang/IllegalStateException") (text := "all lines have come") hown (by decide) (hts (.classLink RX7 57 "java/lang/IllegalStateException") (List.mem_of_getElem? (i := 3) (by decide +kernel))) (hts (.initialized "java/lang/IllegalStateException") (List.mem_of_getElem? (i := 4) (by decide +kernel))) (hT _ (List.mem_of_getElem? (i := 1) rfl)) (fun w hw => hts w ((by decide +kernel : ∀ w ∈ (vx_atS RX7 61 "java/lang/IllegalStateException" qxn).filter goodWord, w ∈ wsX7_addLine) w hw)) qxN_ISE qxG_ISE hC hZ hS hl.1 hml dX7_addLine_71 dX7_addLine_74 dX7_addLine_75 dX7_addLine_77 dX7_addLine_80 htab (Nat.le_of_ble_eq_true rfl) (Nat.le_of_ble_eq_true rfl) (Nat.le_of_ble_eq_true rfl) (Nat.le_of_ble_eq_true rfl) hlocks
set_option maxHeartbeats 4000000 in
set_option maxRecDepth 100000 in
theorem x_addAlert1 (l : Launch) (hst : l.stackTraces = false) (G : QG) (es : Nat) (A : Nat → Prop) (σ ad : QSt) (hF : qWF σ) (x0 x1 x2 x3 x4 x5 x6 : Int32) (hbad : ¬ ((nI 0 ≤ x0 ∧ x0 ≤ nI 3) ∧ (nI 0 ≤ x1 ∧ x1 ≤ nI 4) ∧ (-1 ≤ x2 ∧ x2 ≤ nI 2) ∧ (nI 0 ≤ x3 ∧ x3 ≤ nI 99) ∧ (nI 1 ≤ x4 ∧ x4 ≤ nI 9) ∧ (nI 1 ≤ x5 ∧ x5 ≤ nI 50) ∧ (nI 0 ≤ x6 ∧ x6 ≤ nI 20))) : vx_Met l yX7_addAlert wsX7_addAlert ({ frames := 6, cells := 1, slots := 6, locals := 82 } : Room) (qX G es A σ ad [.ref (ad 0 0), .int (x0), .int (x1), .int (x2), .int (x3), .int (x4), .int (x5), .int (x6)]) qNR (qXX "java/lang/IllegalArgumentException") 1 6 A := by
  refine vx_ofW (cc := cX7_addAlert) (maxL := 11) (ret := (some .int)) (by decide) rfl ?_
  intro p e s m args below meth c s₁ B hml htab hv
  obtain ⟨rfl, hC, hW, hZ, hT⟩ := hv
  have hx := B.exec
  have hb := B.bytes
  have hts := atoms_spec (ws := wsX7_addAlert) B.pre
  have hown : s.vm.findClass RX7 = some m.cls := findClass_of_methodNamed B.named
  have hlocks := B.notSynchronized
  have hB := hF.1
  have hn := hF.n
  have hS : va_S A s.heap s.heap [] := va_S.rf
  have hl := lv_entry ([.ref (ad 0 0), .int (x0), .int (x1), .int (x2), .int (x3), .int (x4), .int (x5), .int (x6)]) (n := 11) (Nat.le_of_ble_eq_true rfl)
  rw [lg_entry_eq]
  generalize (lg_sl ([.ref (ad 0 0), .int (x0), .int (x1), .int (x2), .int (x3), .int (x4), .int (x5), .int (x6)]) ++ List.replicate (11 - (lg_sl ([.ref (ad 0 0), .int (x0), .int (x1), .int (x2), .int (x3), .int (x4), .int (x5), .int (x6)])).length) Slot.unset).toArray = ls at hl ⊢
  have hl : lv_has ls 11 [(0, .ref (ad 0 0)), (1, .int (x0)), (2, .int (x1)), (3, .int (x2)), (4, .int (x3)), (5, .int (x4)), (6, .int (x5)), (7, .int (x6))] := hl
  refine lv_iload_n hx hb dX7_addAlert_0 rfl (lv_at hl 1 rfl) ?_
  refine q_v (va_runS (As := [.int (x0)]) (rest := []) ⟨hx, hb, hml, hown, hts⟩ (m_isSource l (x0)) (va_cwS 1 hts gX7_addAlert_X7_isSource rfl rfl rfl (by decide +kernel) ⟨Nat.le_of_ble_eq_true rfl, Nat.le_of_ble_eq_true rfl⟩) ⟨qU.blind, qU.pre⟩ rfl rfl hl.1 rfl (lv_room (Nat.le_of_ble_eq_true rfl)) dX7_addAlert_1 ⟨Nat.le_of_ble_eq_true rfl, Nat.le_of_ble_eq_true rfl⟩) hS (fun _ h => h.elim) (fun locs hS => ?_)
  refine q_eq0 (tgt := 64) hx hb q_31B dX7_addAlert_4 (by decide) (fun g1 => ?_) (fun g1 => ?_)
  · skip
    exact q_thrS hx hb hst (cls := "java/lang/IllegalArgumentException") (text := "a number of the alert is out of range") hown (by decide) (hts (.classLink RX7 46 "java/lang/IllegalArgumentException") (List.mem_of_getElem? (i := 1) (by decide +kernel))) (hts (.initialized "java/lang/IllegalArgumentException") (List.mem_of_getElem? (i := 2) (by decide +kernel))) (hT _ (List.mem_of_getElem? (i := 8) rfl)) (fun w hw => hts w ((by decide +kernel : ∀ w ∈ (vx_atS RX7 50 "java/lang/IllegalArgumentException" qxn).filter goodWord, w ∈ wsX7_addAlert) w hw)) qxN_IAE qxG_IAE hC hZ hS hl.1 hml dX7_addAlert_64 dX7_addAlert_67 dX7_addAlert_68 dX7_addAlert_70 dX7_addAlert_73 htab (Nat.le_of_ble_eq_true rfl) (Nat.le_of_ble_eq_true rfl) (Nat.le_of_ble_eq_true rfl) (Nat.le_of_ble_eq_true rfl) hlocks
  · skip
    refine lv_iload_n hx hb dX7_addAlert_7 rfl (lv_at hl 2 rfl) ?_
    refine q_v (va_runS (As := [.int (x1)]) (rest := []) ⟨hx, hb, hml, hown, hts⟩ (m_isRank l (x1)) (va_cwS 1 hts gX7_addAlert_X7_isRank rfl rfl rfl (by decide +kernel) ⟨Nat.le_of_ble_eq_true rfl, Nat.le_of_ble_eq_true rfl⟩) ⟨qU.blind, qU.pre⟩ rfl rfl hl.1 rfl (lv_room (Nat.le_of_ble_eq_true rfl)) dX7_addAlert_8 ⟨Nat.le_of_ble_eq_true rfl, Nat.le_of_ble_eq_true rfl⟩) hS (fun _ h => h.elim) (fun locs hS => ?_)
    refine q_eq0 (tgt := 64) hx hb q_31B dX7_addAlert_11 (by decide) (fun g2 => ?_) (fun g2 => ?_)
    · skip
      exact q_thrS hx hb hst (cls := "java/lang/IllegalArgumentException") (text := "a number of the alert is out of range") hown (by decide) (hts (.classLink RX7 46 "java/lang/IllegalArgumentException") (List.mem_of_getElem? (i := 1) (by decide +kernel))) (hts (.initialized "java/lang/IllegalArgumentException") (List.mem_of_getElem? (i := 2) (by decide +kernel))) (hT _ (List.mem_of_getElem? (i := 8) rfl)) (fun w hw => hts w ((by decide +kernel : ∀ w ∈ (vx_atS RX7 50 "java/lang/IllegalArgumentException" qxn).filter goodWord, w ∈ wsX7_addAlert) w hw)) qxN_IAE qxG_IAE hC hZ hS hl.1 hml dX7_addAlert_64 dX7_addAlert_67 dX7_addAlert_68 dX7_addAlert_70 dX7_addAlert_73 htab (Nat.le_of_ble_eq_true rfl) (Nat.le_of_ble_eq_true rfl) (Nat.le_of_ble_eq_true rfl) (Nat.le_of_ble_eq_true rfl) hlocks
    · skip
      refine lv_iload_n hx hb dX7_addAlert_14 rfl (lv_at hl 3 rfl) ?_
      refine lv_iconst (v := -1) hx hb dX7_addAlert_15 (by decide) ?_
      refine lv_iconst (v := nI 2) hx hb dX7_addAlert_16 (by decide) ?_
      refine q_v (va_runS (As := [.int (x2), .int (-1), .int (nI 2)]) (rest := []) ⟨hx, hb, hml, hown, hts⟩ (m_isWithin l (x2) (-1) (nI 2)) (va_cwS 3 hts gX7_addAlert_X7_isWithin rfl rfl rfl (by decide +kernel) ⟨Nat.le_of_ble_eq_true rfl, Nat.le_of_ble_eq_true rfl⟩) ⟨qU.blind, qU.pre⟩ rfl rfl hl.1 rfl (lv_room (Nat.le_of_ble_eq_true rfl)) dX7_addAlert_17 ⟨Nat.le_of_ble_eq_true rfl, Nat.le_of_ble_eq_true rfl⟩) hS (fun _ h => h.elim) (fun locs hS => ?_)
      refine q_eq0 (tgt := 64) hx hb q_31B dX7_addAlert_20 (by decide) (fun g3 => ?_) (fun g3 => ?_)
      · skip
        exact q_thrS hx hb hst (cls := "java/lang/IllegalArgumentException") (text := "a number of the alert is out of range") hown (by decide) (hts (.classLink RX7 46 "java/lang/IllegalArgumentException") (List.mem_of_getElem? (i := 1) (by decide +kernel))) (hts (.initialized "java/lang/IllegalArgumentException") (List.mem_of_getElem? (i := 2) (by decide +kernel))) (hT _ (List.mem_of_getElem? (i := 8) rfl)) (fun w hw => hts w ((by decide +kernel : ∀ w ∈ (vx_atS RX7 50 "java/lang/IllegalArgumentException" qxn).filter goodWord, w ∈ wsX7_addAlert) w hw)) qxN_IAE qxG_IAE hC hZ hS hl.1 hml dX7_addAlert_64 dX7_addAlert_67 dX7_addAlert_68 dX7_addAlert_70 dX7_addAlert_73 htab (Nat.le_of_ble_eq_true rfl) (Nat.le_of_ble_eq_true rfl) (Nat.le_of_ble_eq_true rfl) (Nat.le_of_ble_eq_true rfl) hlocks
      · skip
        refine lv_iload hx hb dX7_addAlert_23 (lv_at hl 4 rfl) ?_
        refine q_v (va_runS (As := [.int (x3)]) (rest := []) ⟨hx, hb, hml, hown, hts⟩ (m_isWord l (x3)) (va_cwS 1 hts gX7_addAlert_X7_isWord rfl rfl rfl (by decide +kernel) ⟨Nat.le_of_ble_eq_true rfl, Nat.le_of_ble_eq_true rfl⟩) ⟨qU.blind, qU.pre⟩ rfl rfl hl.1 rfl (lv_room (Nat.le_of_ble_eq_true rfl)) dX7_addAlert_25 ⟨Nat.le_of_ble_eq_true rfl, Nat.le_of_ble_eq_true rfl⟩) hS (fun _ h => h.elim) (fun locs hS => ?_)
        refine q_eq0 (tgt := 64) hx hb q_31B dX7_addAlert_28 (by decide) (fun g4 => ?_) (fun g4 => ?_)
        · skip
          exact q_thrS hx hb hst (cls := "java/lang/IllegalArgumentException") (text := "a number of the alert is out of range") hown (by decide) (hts (.classLink RX7 46 "java/lang/IllegalArgumentException") (List.mem_of_getElem? (i := 1) (by decide +kernel))) (hts (.initialized "java/lang/IllegalArgumentException") (List.mem_of_getElem? (i := 2) (by decide +kernel))) (hT _ (List.mem_of_getElem? (i := 8) rfl)) (fun w hw => hts w ((by decide +kernel : ∀ w ∈ (vx_atS RX7 50 "java/lang/IllegalArgumentException" qxn).filter goodWord, w ∈ wsX7_addAlert) w hw)) qxN_IAE qxG_IAE hC hZ hS hl.1 hml dX7_addAlert_64 dX7_addAlert_67 dX7_addAlert_68 dX7_addAlert_70 dX7_addAlert_73 htab (Nat.le_of_ble_eq_true rfl) (Nat.le_of_ble_eq_true rfl) (Nat.le_of_ble_eq_true rfl) (Nat.le_of_ble_eq_true rfl) hlocks
        · skip
          refine lv_iload hx hb dX7_addAlert_31 (lv_at hl 5 rfl) ?_
          refine lv_iconst (v := nI 1) hx hb dX7_addAlert_33 (by decide) ?_
          refine lv_bipush (v := nI 9) hx hb dX7_addAlert_34 (by decide) ?_
          refine q_v (va_runS (As := [.int (x4), .int (nI 1), .int (nI 9)]) (rest := []) ⟨hx, hb, hml, hown, hts⟩ (m_isWithin l (x4) (nI 1) (nI 9)) (va_cwS 3 hts gX7_addAlert_X7_isWithin rfl rfl rfl (by decide +kernel) ⟨Nat.le_of_ble_eq_true rfl, Nat.le_of_ble_eq_true rfl⟩) ⟨qU.blind, qU.pre⟩ rfl rfl hl.1 rfl (lv_room (Nat.le_of_ble_eq_true rfl)) dX7_addAlert_36 ⟨Nat.le_of_ble_eq_true rfl, Nat.le_of_ble_eq_true rfl⟩) hS (fun _ h => h.elim) (fun locs hS => ?_)
          refine q_eq0 (tgt := 64) hx hb q_31B dX7_addAlert_39 (by decide) (fun g5 => ?_) (fun g5 => ?_)
          · skip
            exact q_thrS hx hb hst (cls := "java/lang/IllegalArgumentException") (text := "a number of the alert is out of range") hown (by decide) (hts (.classLink RX7 46 "java/lang/IllegalArgumentException") (List.mem_of_getElem? (i := 1) (by decide +kernel))) (hts (.initialized "java/lang/IllegalArgumentException") (List.mem_of_getElem? (i := 2) (by decide +kernel))) (hT _ (List.mem_of_getElem? (i := 8) rfl)) (fun w hw => hts w ((by decide +kernel : ∀ w ∈ (vx_atS RX7 50 "java/lang/IllegalArgumentException" qxn).filter goodWord, w ∈ wsX7_addAlert) w hw)) qxN_IAE qxG_IAE hC hZ hS hl.1 hml dX7_addAlert_64 dX7_addAlert_67 dX7_addAlert_68 dX7_addAlert_70 dX7_addAlert_73 htab (Nat.le_of_ble_eq_true rfl) (Nat.le_of_ble_eq_true rfl) (Nat.le_of_ble_eq_true rfl) (Nat.le_of_ble_eq_true rfl) hlocks
          · skip
            refine lv_iload hx hb dX7_addAlert_42 (lv_at hl 6 rfl) ?_
            refine lv_iconst (v := nI 1) hx hb dX7_addAlert_44 (by decide) ?_
            refine lv_bipush (v := nI 50) hx hb dX7_addAlert_45 (by decide) ?_
            refine q_v (va_runS (As := [.int (x5), .int (nI 1), .int (nI 50)]) (rest := []) ⟨hx, hb, hml, hown, hts⟩ (m_isWithin l (x5) (nI 1) (nI 50)) (va_cwS 3 hts gX7_addAlert_X7_isWithin rfl rfl rfl (by decide +kernel) ⟨Nat.le_of_ble_eq_true rfl, Nat.le_of_ble_eq_true rfl⟩) ⟨qU.blind, qU.pre⟩ rfl rfl hl.1 rfl (lv_room (Nat.le_of_ble_eq_true rfl)) dX7_addAlert_47 ⟨Nat.le_of_ble_eq_true rfl, Nat.le_of_ble_eq_true rfl⟩) hS (fun _ h => h.elim) (fun locs hS => ?_)
            refine q_eq0 (tgt := 64) hx hb q_31B dX7_addAlert_50 (by decide) (fun g6 => ?_) (fun g6 => ?_)
            · skip
              exact q_thrS hx hb hst (cls := "java/lang/IllegalArgumentException") (text := "a number of the alert is out of range") hown (by decide) (hts (.classLink RX7 46 "java/lang/IllegalArgumentException") (List.mem_of_getElem? (i := 1) (by decide +kernel))) (hts (.initialized "java/lang/IllegalArgumentException") (List.mem_of_getElem? (i := 2) (by decide +kernel))) (hT _ (List.mem_of_getElem? (i := 8) rfl)) (fun w hw => hts w ((by decide +kernel : ∀ w ∈ (vx_atS RX7 50 "java/lang/IllegalArgumentException" qxn).filter goodWord, w ∈ wsX7_addAlert) w hw)) qxN_IAE qxG_IAE hC hZ hS hl.1 hml dX7_addAlert_64 dX7_addAlert_67 dX7_addAlert_68 dX7_addAlert_70 dX7_addAlert_73 htab (Nat.le_of_ble_eq_true rfl) (Nat.le_of_ble_eq_true rfl) (Nat.le_of_ble_eq_true rfl) (Nat.le_of_ble_eq_true rfl) hlocks
            · skip
              refine lv_iload hx hb dX7_addAlert_53 (lv_at hl 7 rfl) ?_
              refine lv_iconst (v := nI 0) hx hb dX7_addAlert_55 (by decide) ?_
              refine lv_bipush (v := nI 20) hx hb dX7_addAlert_56 (by decide) ?_
              refine q_v (va_runS (As := [.int (x6), .int (nI 0), .int (nI 20)]) (rest := []) ⟨hx, hb, hml, hown, hts⟩ (m_isWithin l (x6) (nI 0) (nI 20)) (va_cwS 3 hts gX7_addAlert_X7_isWithin rfl rfl rfl (by decide +kernel) ⟨Nat.le_of_ble_eq_true rfl, Nat.le_of_ble_eq_true rfl⟩) ⟨qU.blind, qU.pre⟩ rfl rfl hl.1 rfl (lv_room (Nat.le_of_ble_eq_true rfl)) dX7_addAlert_58 ⟨Nat.le_of_ble_eq_true rfl, Nat.le_of_ble_eq_true rfl⟩) hS (fun _ h => h.elim) (fun locs hS => ?_)
              refine q_ne0 (tgt := 74) hx hb q_31B dX7_addAlert_61 (by decide) (fun g7 => (absurd ⟨r_un g1, r_un g2, r_un g3, r_un g4, r_un g5, r_un g6, r_un g7⟩ hbad)) (fun g7 => ?_)
              exact q_thrS hx hb hst (cls := "java/lang/IllegalArgumentException") (text := "a number of the alert is out of range") hown (by decide) (hts (.classLink RX7 46 "java/lang/IllegalArgumentException") (List.mem_of_getElem? (i := 1) (by decide +kernel))) (hts (.initialized "java/lang/IllegalArgumentException") (List.mem_of_getElem? (i := 2) (by decide +kernel))) (hT _ (List.mem_of_getElem? (i := 8) rfl)) (fun w hw => hts w ((by decide +kernel : ∀ w ∈ (vx_atS RX7 50 "java/lang/IllegalArgumentException" qxn).filter goodWord, w ∈ wsX7_addAlert) w hw)) qxN_IAE qxG_IAE hC hZ hS hl.1 hml dX7_addAlert_64 dX7_addAlert_67 dX7_addAlert_68 dX7_addAlert_70 dX7_addAlert_73 htab (Nat.le_of_ble_eq_true rfl) (Nat.le_of_ble_eq_true rfl) (Nat.le_of_ble_eq_true rfl) (Nat.le_of_ble_eq_true rfl) hlocks
set_option maxHeartbeats 4000000 in
set_option maxRecDepth 100000 in
theorem x_addAlert2 (l : Launch) (hst : l.stackTraces = false) (G : QG) (es : Nat) (A : Nat → Prop) (σ ad : QSt) (hF : qWF σ) (s0 r0 P w0 g0 n0 h0 : Nat) (hs0 : s0 < 4) (hr0 : r0 < 5) (hP : P ≤ 3) (hw0 : w0 < 100) (hg0 : 1 ≤ g0 ∧ g0 ≤ 9) (hn0 : 1 ≤ n0 ∧ n0 ≤ 50) (hh0 : h0 ≤ 20) (hn2 : σ 0 2 = 6) : vx_Met l yX7_addAlert wsX7_addAlert ({ frames := 6, cells := 1, slots := 6, locals := 82 } : Room) (qX G es A σ ad [.ref (ad 0 0), .int (nI s0), .int (nI r0), .int (nI P - 1), .int (nI w0), .int (nI g0), .int (nI n0), .int (nI h0)]) qNR (qXX "java/lang/IllegalStateException") 1 6 A := by
  refine vx_ofW (cc := cX7_addAlert) (maxL := 11) (ret := (some .int)) (by decide) rfl ?_
  intro p e s m args below meth c s₁ B hml htab hv
  obtain ⟨rfl, hC, hW, hZ, hT⟩ := hv
  have hx := B.exec
  have hb := B.bytes
  have hts := atoms_spec (ws := wsX7_addAlert) B.pre
  have hown : s.vm.findClass RX7 = some m.cls := findClass_of_methodNamed B.named
  have hlocks := B.notSynchronized
  have hB := hF.1
  have hn := hF.n
  have hS : va_S A s.heap s.heap [] := va_S.rf
  have hl := lv_entry ([.ref (ad 0 0), .int (nI s0), .int (nI r0), .int (nI P - 1), .int (nI w0), .int (nI g0), .int (nI n0), .int (nI h0)]) (n := 11) (Nat.le_of_ble_eq_true rfl)
  rw [lg_entry_eq]
  generalize (lg_sl ([.ref (ad 0 0), .int (nI s0), .int (nI r0), .int (nI P - 1), .int (nI w0), .int (nI g0), .int (nI n0), .int (nI h0)]) ++ List.replicate (11 - (lg_sl ([.ref (ad 0 0), .int (nI s0), .int (nI r0), .int (nI P - 1), .int (nI w0), .int (nI g0), .int (nI n0), .int (nI h0)])).length) Slot.unset).toArray = ls at hl ⊢
  have hl : lv_has ls 11 [(0, .ref (ad 0 0)), (1, .int (nI s0)), (2, .int (nI r0)), (3, .int (nI P - 1)), (4, .int (nI w0)), (5, .int (nI g0)), (6, .int (nI n0)), (7, .int (nI h0))] := hl
  have iRX7 : ∀ w ∈ wsX70, w ∈ wsX7_addAlert := by decide +kernel
  refine lv_iload_n hx hb dX7_addAlert_0 rfl (lv_at hl 1 rfl) ?_
  refine q_v (va_runS (As := [.int (nI s0)]) (rest := []) ⟨hx, hb, hml, hown, hts⟩ (m_isSource l (nI s0)) (va_cwS 1 hts gX7_addAlert_X7_isSource rfl rfl rfl (by decide +kernel) ⟨Nat.le_of_ble_eq_true rfl, Nat.le_of_ble_eq_true rfl⟩) ⟨qU.blind, qU.pre⟩ rfl rfl hl.1 rfl (lv_room (Nat.le_of_ble_eq_true rfl)) dX7_addAlert_1 ⟨Nat.le_of_ble_eq_true rfl, Nat.le_of_ble_eq_true rfl⟩) hS (fun _ h => h.elim) (fun locs hS => ?_)
  refine q_ti (y := nI 1) (by rw [qB_t (⟨nI_le (by omega) (by omega), nI_le (by omega) (by decide)⟩ : nI 0 ≤ nI s0 ∧ nI s0 ≤ nI 3)]) ?_
  refine q_eq0 (tgt := 64) hx hb (by decide) dX7_addAlert_4 (by decide) (fun g1 => absurd g1 (by decide)) (fun g1 => ?_)
  refine lv_iload_n hx hb dX7_addAlert_7 rfl (lv_at hl 2 rfl) ?_
  refine q_v (va_runS (As := [.int (nI r0)]) (rest := []) ⟨hx, hb, hml, hown, hts⟩ (m_isRank l (nI r0)) (va_cwS 1 hts gX7_addAlert_X7_isRank rfl rfl rfl (by decide +kernel) ⟨Nat.le_of_ble_eq_true rfl, Nat.le_of_ble_eq_true rfl⟩) ⟨qU.blind, qU.pre⟩ rfl rfl hl.1 rfl (lv_room (Nat.le_of_ble_eq_true rfl)) dX7_addAlert_8 ⟨Nat.le_of_ble_eq_true rfl, Nat.le_of_ble_eq_true rfl⟩) hS (fun _ h => h.elim) (fun locs hS => ?_)
  refine q_ti (y := nI 1) (by rw [qB_t (⟨nI_le (by omega) (by omega), nI_le (by omega) (by decide)⟩ : nI 0 ≤ nI r0 ∧ nI r0 ≤ nI 4)]) ?_
  refine q_eq0 (tgt := 64) hx hb (by decide) dX7_addAlert_11 (by decide) (fun g2 => absurd g2 (by decide)) (fun g2 => ?_)
  refine lv_iload_n hx hb dX7_addAlert_14 rfl (lv_at hl 3 rfl) ?_
  refine lv_iconst (v := -1) hx hb dX7_addAlert_15 (by decide) ?_
  refine lv_iconst (v := nI 2) hx hb dX7_addAlert_16 (by decide) ?_
  refine q_v (va_runS (As := [.int (nI P - 1), .int (-1), .int (nI 2)]) (rest := []) ⟨hx, hb, hml, hown, hts⟩ (m_isWithin l (nI P - 1) (-1) (nI 2)) (va_cwS 3 hts gX7_addAlert_X7_isWithin rfl rfl rfl (by decide +kernel) ⟨Nat.le_of_ble_eq_true rfl, Nat.le_of_ble_eq_true rfl⟩) ⟨qU.blind, qU.pre⟩ rfl rfl hl.1 rfl (lv_room (Nat.le_of_ble_eq_true rfl)) dX7_addAlert_17 ⟨Nat.le_of_ble_eq_true rfl, Nat.le_of_ble_eq_true rfl⟩) hS (fun _ h => h.elim) (fun locs hS => ?_)
  refine q_ti (y := nI 1) (by rw [qB_t ((by rcases (show P = 0 ∨ P = 1 ∨ P = 2 ∨ P = 3 by omega) with rfl | rfl | rfl | rfl <;> decide) : -1 ≤ nI P - 1 ∧ nI P - 1 ≤ nI 2)]) ?_
  refine q_eq0 (tgt := 64) hx hb (by decide) dX7_addAlert_20 (by decide) (fun g3 => absurd g3 (by decide)) (fun g3 => ?_)
  refine lv_iload hx hb dX7_addAlert_23 (lv_at hl 4 rfl) ?_
  refine q_v (va_runS (As := [.int (nI w0)]) (rest := []) ⟨hx, hb, hml, hown, hts⟩ (m_isWord l (nI w0)) (va_cwS 1 hts gX7_addAlert_X7_isWord rfl rfl rfl (by decide +kernel) ⟨Nat.le_of_ble_eq_true rfl, Nat.le_of_ble_eq_true rfl⟩) ⟨qU.blind, qU.pre⟩ rfl rfl hl.1 rfl (lv_room (Nat.le_of_ble_eq_true rfl)) dX7_addAlert_25 ⟨Nat.le_of_ble_eq_true rfl, Nat.le_of_ble_eq_true rfl⟩) hS (fun _ h => h.elim) (fun locs hS => ?_)
  refine q_ti (y := nI 1) (by rw [qB_t (⟨nI_le (by omega) (by omega), nI_le (by omega) (by decide)⟩ : nI 0 ≤ nI w0 ∧ nI w0 ≤ nI 99)]) ?_
  refine q_eq0 (tgt := 64) hx hb (by decide) dX7_addAlert_28 (by decide) (fun g4 => absurd g4 (by decide)) (fun g4 => ?_)
  refine lv_iload hx hb dX7_addAlert_31 (lv_at hl 5 rfl) ?_
  refine lv_iconst (v := nI 1) hx hb dX7_addAlert_33 (by decide) ?_
  refine lv_bipush (v := nI 9) hx hb dX7_addAlert_34 (by decide) ?_
  refine q_v (va_runS (As := [.int (nI g0), .int (nI 1), .int (nI 9)]) (rest := []) ⟨hx, hb, hml, hown, hts⟩ (m_isWithin l (nI g0) (nI 1) (nI 9)) (va_cwS 3 hts gX7_addAlert_X7_isWithin rfl rfl rfl (by decide +kernel) ⟨Nat.le_of_ble_eq_true rfl, Nat.le_of_ble_eq_true rfl⟩) ⟨qU.blind, qU.pre⟩ rfl rfl hl.1 rfl (lv_room (Nat.le_of_ble_eq_true rfl)) dX7_addAlert_36 ⟨Nat.le_of_ble_eq_true rfl, Nat.le_of_ble_eq_true rfl⟩) hS (fun _ h => h.elim) (fun locs hS => ?_)
  refine q_ti (y := nI 1) (by rw [qB_t (⟨nI_le (by omega) (by omega), nI_le (by omega) (by decide)⟩ : nI 1 ≤ nI g0 ∧ nI g0 ≤ nI 9)]) ?_
  refine q_eq0 (tgt := 64) hx hb (by decide) dX7_addAlert_39 (by decide) (fun g5 => absurd g5 (by decide)) (fun g5 => ?_)
  refine lv_iload hx hb dX7_addAlert_42 (lv_at hl 6 rfl) ?_
  refine lv_iconst (v := nI 1) hx hb dX7_addAlert_44 (by decide) ?_
  refine lv_bipush (v := nI 50) hx hb dX7_addAlert_45 (by decide) ?_
  refine q_v (va_runS (As := [.int (nI n0), .int (nI 1), .int (nI 50)]) (rest := []) ⟨hx, hb, hml, hown, hts⟩ (m_isWithin l (nI n0) (nI 1) (nI 50)) (va_cwS 3 hts gX7_addAlert_X7_isWithin rfl rfl rfl (by decide +kernel) ⟨Nat.le_of_ble_eq_true rfl, Nat.le_of_ble_eq_true rfl⟩) ⟨qU.blind, qU.pre⟩ rfl rfl hl.1 rfl (lv_room (Nat.le_of_ble_eq_true rfl)) dX7_addAlert_47 ⟨Nat.le_of_ble_eq_true rfl, Nat.le_of_ble_eq_true rfl⟩) hS (fun _ h => h.elim) (fun locs hS => ?_)
  refine q_ti (y := nI 1) (by rw [qB_t (⟨nI_le (by omega) (by omega), nI_le (by omega) (by decide)⟩ : nI 1 ≤ nI n0 ∧ nI n0 ≤ nI 50)]) ?_
  refine q_eq0 (tgt := 64) hx hb (by decide) dX7_addAlert_50 (by decide) (fun g6 => absurd g6 (by decide)) (fun g6 => ?_)
  refine lv_iload hx hb dX7_addAlert_53 (lv_at hl 7 rfl) ?_
  refine lv_iconst (v := nI 0) hx hb dX7_addAlert_55 (by decide) ?_
  refine lv_bipush (v := nI 20) hx hb dX7_addAlert_56 (by decide) ?_
  refine q_v (va_runS (As := [.int (nI h0), .int (nI 0), .int (nI 20)]) (rest := []) ⟨hx, hb, hml, hown, hts⟩ (m_isWithin l (nI h0) (nI 0) (nI 20)) (va_cwS 3 hts gX7_addAlert_X7_isWithin rfl rfl rfl (by decide +kernel) ⟨Nat.le_of_ble_eq_true rfl, Nat.le_of_ble_eq_true rfl⟩) ⟨qU.blind, qU.pre⟩ rfl rfl hl.1 rfl (lv_room (Nat.le_of_ble_eq_true rfl)) dX7_addAlert_58 ⟨Nat.le_of_ble_eq_true rfl, Nat.le_of_ble_eq_true rfl⟩) hS (fun _ h => h.elim) (fun locs hS => ?_)
  refine q_ti (y := nI 1) (by rw [qB_t (⟨nI_le (by omega) (by omega), nI_le (by omega) (by decide)⟩ : nI 0 ≤ nI h0 ∧ nI h0 ≤ nI 20)]) ?_
  refine q_ne0 (tgt := 74) hx hb (by decide) dX7_addAlert_61 (by decide) (fun g7 => ?_) (fun g7 => absurd g7 (by decide))
  refine lv_aload_n hx hb dX7_addAlert_74 rfl (lv_at hl 0 rfl) ?_
  refine q_get (C := RX7) (T := TX7) (N := 7) hx hb hts iRX7 hown hC.1 (hW.to qLV0) rfl 2 (by decide) (hts (.fieldLink RX7 19 "LogWeave" "alertList" "Ljava/util/ArrayList;") (List.mem_of_getElem? (i := 5) (by decide +kernel))) rfl (v := .ref (ad 1 2)) rfl dX7_addAlert_75 ?_
  refine q_v (va_runV (As := []) (rest := []) ⟨hx, hb, hml, hown, hts⟩ (m_size l G (ad 1 2) _ _ (nI (σ 0 2))) (cwV 0 hts gX7_addAlert_Jx4a65c_size_8abf5 rfl rfl rfl (by decide +kernel) ⟨Nat.le_of_ble_eq_true rfl, Nat.le_of_ble_eq_true rfl⟩) ⟨qO.blind, qrecv hC (hW.to (qLV1 (j := 2) (by decide))) rfl, qO.pre hC (hW.lob (by decide))⟩ rfl rfl hl.1 rfl (lv_room (Nat.le_of_ble_eq_true rfl)) dX7_addAlert_78 ⟨Nat.le_of_ble_eq_true rfl, Nat.le_of_ble_eq_true rfl⟩) hS (fun _ h => h.elim) (fun locs hS => ?_)
  refine lv_bipush (v := nI 6) hx hb dX7_addAlert_81 (by decide) ?_
  refine q_lt (tgt := 96) hx hb (q31 (hB _ _)) (by decide) dX7_addAlert_83 (by decide) (fun g9 => (by omega)) (fun g9 => ?_)
  exact q_thrS hx hb hst (cls := "java/lang/IllegalStateException") (text := "all alerts exist") hown (by decide) (hts (.classLink RX7 57 "java/lang/IllegalStateException") (List.mem_of_getElem? (i := 3) (by decide +kernel))) (hts (.initialized "java/lang/IllegalStateException") (List.mem_of_getElem? (i := 4) (by decide +kernel))) (hT _ (List.mem_of_getElem? (i := 9) rfl)) (fun w hw => hts w ((by decide +kernel : ∀ w ∈ (vx_atS RX7 61 "java/lang/IllegalStateException" qxn).filter goodWord, w ∈ wsX7_addAlert) w hw)) qxN_ISE qxG_ISE hC hZ hS hl.1 hml dX7_addAlert_86 dX7_addAlert_89 dX7_addAlert_90 dX7_addAlert_92 dX7_addAlert_95 htab (Nat.le_of_ble_eq_true rfl) (Nat.le_of_ble_eq_true rfl) (Nat.le_of_ble_eq_true rfl) (Nat.le_of_ble_eq_true rfl) hlocks
set_option maxHeartbeats 4000000 in
set_option maxRecDepth 100000 in
theorem x_release2 (l : Launch) (hst : l.stackTraces = false) (G : QG) (es : Nat) (A : Nat → Prop) (σ ad : QSt) (hF : qWF σ) (f : Nat) (hf : f < σ 0 3) (h1 : σ 162 f = 1) : vx_Met l yX7_release wsX7_release ({ frames := 6, cells := 1, slots := 6, locals := 85 } : Room) (qX G es A σ ad [.ref (ad 0 0), .int (nI f)]) qNR (qXX "java/lang/IllegalStateException") 1 6 A := by
  refine vx_ofW (cc := cX7_release) (maxL := 3) (ret := (some .int)) (by decide) rfl ?_
  intro p e s m args below meth c s₁ B hml htab hv
  obtain ⟨rfl, hC, hW, hZ, hT⟩ := hv
  have hx := B.exec
  have hb := B.bytes
  have hts := atoms_spec (ws := wsX7_release) B.pre
  have hown : s.vm.findClass RX7 = some m.cls := findClass_of_methodNamed B.named
  have hlocks := B.notSynchronized
  have hB := hF.1
  have hn := hF.n
  have hS : va_S A s.heap s.heap [] := va_S.rf
  have hl := lv_entry ([.ref (ad 0 0), .int (nI f)]) (n := 3) (Nat.le_of_ble_eq_true rfl)
  rw [lg_entry_eq]
  generalize (lg_sl ([.ref (ad 0 0), .int (nI f)]) ++ List.replicate (3 - (lg_sl ([.ref (ad 0 0), .int (nI f)])).length) Slot.unset).toArray = ls at hl ⊢
  have hl : lv_has ls 3 [(0, .ref (ad 0 0)), (1, .int (nI f))] := hl
  have iRX7 : ∀ w ∈ wsX70, w ∈ wsX7_release := by decide +kernel
  have iRX2 : ∀ w ∈ wsX20, w ∈ wsX7_release := by decide +kernel
  have iRX0 : ∀ w ∈ wsX00, w ∈ wsX7_release := by decide +kernel
  refine lv_aload_n hx hb dX7_release_0 rfl (lv_at hl 0 rfl) ?_
  refine lv_iload_n hx hb dX7_release_1 rfl (lv_at hl 1 rfl) ?_
  refine q_v (va_runV (As := [.int (nI f)]) (rest := []) ⟨hx, hb, hml, hown, hts⟩ (m_firingNumbered l G es A σ ad hF f hf) (cwV 1 hts gX7_release_X7_firingNumbered rfl rfl rfl (by decide +kernel) ⟨Nat.le_of_ble_eq_true rfl, Nat.le_of_ble_eq_true rfl⟩) ⟨qR.blind, qrecv hC (hW.to qLV0) rfl, qR.pre hC hW⟩ rfl rfl hl.1 rfl (lv_room (Nat.le_of_ble_eq_true rfl)) dX7_release_2 ⟨Nat.le_of_ble_eq_true rfl, Nat.le_of_ble_eq_true rfl⟩) hS (fun _ h => h.elim) (fun locs hS => ?_)
  refine lv_astore_n (lv' := [(2, .ref (ad 10 f)), (0, .ref (ad 0 0)), (1, .int (nI f))]) hx hb dX7_release_5 rfl hl (by decide) rfl (fun ls hl => ?_)
  refine lv_aload_n hx hb dX7_release_6 rfl (lv_at hl 0 rfl) ?_
  refine q_getN (C := RX2) (T := TX2) (N := 5) hx hb hts iRX2 hown hC.1 (hW.to (qLV10 hf)) rfl 2 (by decide) (va_Nw.use rfl (qf_RX7_242 hC)) rfl (v := .int (nI (σ 162 f))) rfl dX7_release_7 ?_
  refine q_eq0 (tgt := 23) hx hb (q31 (hB _ _)) dX7_release_10 (by decide) (fun c0 => (by omega)) (fun c0 => ?_)
  exact q_thrS hx hb hst (cls := "java/lang/IllegalStateException") (text := "the firing was released") hown (by decide) (hts (.classLink RX7 57 "java/lang/IllegalStateException") (List.mem_of_getElem? (i := 1) (by decide +kernel))) (hts (.initialized "java/lang/IllegalStateException") (List.mem_of_getElem? (i := 2) (by decide +kernel))) (hT _ (List.mem_of_getElem? (i := 10) rfl)) (fun w hw => hts w ((by decide +kernel : ∀ w ∈ (vx_atS RX7 61 "java/lang/IllegalStateException" qxn).filter goodWord, w ∈ wsX7_release) w hw)) qxN_ISE qxG_ISE hC hZ hS hl.1 hml dX7_release_13 dX7_release_16 dX7_release_17 dX7_release_19 dX7_release_22 htab (Nat.le_of_ble_eq_true rfl) (Nat.le_of_ble_eq_true rfl) (Nat.le_of_ble_eq_true rfl) (Nat.le_of_ble_eq_true rfl) hlocks
set_option maxHeartbeats 4000000 in
set_option maxRecDepth 100000 in
theorem x_release3 (l : Launch) (hst : l.stackTraces = false) (G : QG) (es : Nat) (A : Nat → Prop) (σ ad : QSt) (hF : qWF σ) (f : Nat) (hf : f < σ 0 3) (h1 : σ 162 f = 0) (h2 : σ 131 (σ 160 f) ≠ 113) (h3 : σ 134 (σ 160 f) = f + 1) : vx_Met l yX7_release wsX7_release ({ frames := 6, cells := 1, slots := 6, locals := 85 } : Room) (qX G es A σ ad [.ref (ad 0 0), .int (nI f)]) qNR (qXX "java/lang/UnsupportedOperationException") 1 6 A := by
  refine vx_ofW (cc := cX7_release) (maxL := 3) (ret := (some .int)) (by decide) rfl ?_
  intro p e s m args below meth c s₁ B hml htab hv
  obtain ⟨rfl, hC, hW, hZ, hT⟩ := hv
  have hx := B.exec
  have hb := B.bytes
  have hts := atoms_spec (ws := wsX7_release) B.pre
  have hown : s.vm.findClass RX7 = some m.cls := findClass_of_methodNamed B.named
  have hlocks := B.notSynchronized
  have hB := hF.1
  have hn := hF.n
  have hS : va_S A s.heap s.heap [] := va_S.rf
  have hl := lv_entry ([.ref (ad 0 0), .int (nI f)]) (n := 3) (Nat.le_of_ble_eq_true rfl)
  rw [lg_entry_eq]
  generalize (lg_sl ([.ref (ad 0 0), .int (nI f)]) ++ List.replicate (3 - (lg_sl ([.ref (ad 0 0), .int (nI f)])).length) Slot.unset).toArray = ls at hl ⊢
  have hl : lv_has ls 3 [(0, .ref (ad 0 0)), (1, .int (nI f))] := hl
  have iRX7 : ∀ w ∈ wsX70, w ∈ wsX7_release := by decide +kernel
  have iRX2 : ∀ w ∈ wsX20, w ∈ wsX7_release := by decide +kernel
  have iRX0 : ∀ w ∈ wsX00, w ∈ wsX7_release := by decide +kernel
  refine lv_aload_n hx hb dX7_release_0 rfl (lv_at hl 0 rfl) ?_
  refine lv_iload_n hx hb dX7_release_1 rfl (lv_at hl 1 rfl) ?_
  refine q_v (va_runV (As := [.int (nI f)]) (rest := []) ⟨hx, hb, hml, hown, hts⟩ (m_firingNumbered l G es A σ ad hF f hf) (cwV 1 hts gX7_release_X7_firingNumbered rfl rfl rfl (by decide +kernel) ⟨Nat.le_of_ble_eq_true rfl, Nat.le_of_ble_eq_true rfl⟩) ⟨qR.blind, qrecv hC (hW.to qLV0) rfl, qR.pre hC hW⟩ rfl rfl hl.1 rfl (lv_room (Nat.le_of_ble_eq_true rfl)) dX7_release_2 ⟨Nat.le_of_ble_eq_true rfl, Nat.le_of_ble_eq_true rfl⟩) hS (fun _ h => h.elim) (fun locs hS => ?_)
  refine lv_astore_n (lv' := [(2, .ref (ad 10 f)), (0, .ref (ad 0 0)), (1, .int (nI f))]) hx hb dX7_release_5 rfl hl (by decide) rfl (fun ls hl => ?_)
  refine lv_aload_n hx hb dX7_release_6 rfl (lv_at hl 0 rfl) ?_
  refine q_getN (C := RX2) (T := TX2) (N := 5) hx hb hts iRX2 hown hC.1 (hW.to (qLV10 hf)) rfl 2 (by decide) (va_Nw.use rfl (qf_RX7_242 hC)) rfl (v := .int (nI (σ 162 f))) rfl dX7_release_7 ?_
  have hp9 := hF.alt hf
  refine q_eq0 (tgt := 23) hx hb (q31 (hB _ _)) dX7_release_10 (by decide) (fun c0 => ?_) (fun c0 => (by omega))
  refine lv_aload_n hx hb dX7_release_23 rfl (lv_at hl 0 rfl) ?_
  refine q_getN (C := RX2) (T := TX2) (N := 5) hx hb hts iRX2 hown hC.1 (hW.to (qLV10 hf)) rfl 0 (by decide) (va_Nw.use rfl (qf_RX7_227 hC)) rfl (v := .ref (ad 8 (σ 160 f))) rfl dX7_release_24 ?_
  refine q_getN (C := RX0) (T := TX0) (N := 9) hx hb hts iRX0 hown hC.1 (hW.to (qLV8 hp9)) rfl 5 (by decide) (va_Nw.use rfl (qf_RX7_212 hC)) rfl (v := .int (nI (σ 131 (σ 160 f)))) rfl dX7_release_27 ?_
  refine lv_bipush (v := nI 113) hx hb dX7_release_30 (by decide) ?_
  refine q_eq (tgt := 56) hx hb (q31 (hB _ _)) (by decide) dX7_release_32 (by decide) (fun c2 => absurd c2 h2) (fun c2 => ?_)
  refine lv_aload_n hx hb dX7_release_35 rfl (lv_at hl 0 rfl) ?_
  refine q_getN (C := RX2) (T := TX2) (N := 5) hx hb hts iRX2 hown hC.1 (hW.to (qLV10 hf)) rfl 0 (by decide) (va_Nw.use rfl (qf_RX7_227 hC)) rfl (v := .ref (ad 8 (σ 160 f))) rfl dX7_release_36 ?_
  refine q_getN (C := RX0) (T := TX0) (N := 9) hx hb hts iRX0 hown hC.1 (hW.to (qLV8 hp9)) rfl 8 (by decide) (va_Nw.use rfl (qf_RX7_247 hC)) rfl (v := (if σ 134 (σ 160 f) = 0 then .null else .ref (ad 10 (σ 134 (σ 160 f) - 1)))) rfl dX7_release_39 ?_
  refine q_t (w := .ref (ad 10 f)) (by rw [h3]; exact if_neg (Nat.succ_ne_zero f)) ?_
  refine lv_aload_n hx hb dX7_release_42 rfl (lv_at hl 0 rfl) ?_
  refine q_acmp_ne (tgt := 56) hx hb dX7_release_43 (by decide) (fun c5 => absurd rfl c5) (fun c5 => ?_)
  · skip
    exact q_thrS hx hb hst (cls := "java/lang/UnsupportedOperationException") (text := "the alert of the firing fires or is held by it") hown (by decide) (hts (.classLink RX7 251 "java/lang/UnsupportedOperationException") (List.mem_of_getElem? (i := 3) (by decide +kernel))) (hts (.initialized "java/lang/UnsupportedOperationException") (List.mem_of_getElem? (i := 4) (by decide +kernel))) (hT _ (List.mem_of_getElem? (i := 11) rfl)) (fun w hw => hts w ((by decide +kernel : ∀ w ∈ (vx_atS RX7 255 "java/lang/UnsupportedOperationException" qxn).filter goodWord, w ∈ wsX7_release) w hw)) qxN_UOE qxG_UOE hC hZ hS hl.1 hml dX7_release_46 dX7_release_49 dX7_release_50 dX7_release_52 dX7_release_55 htab (Nat.le_of_ble_eq_true rfl) (Nat.le_of_ble_eq_true rfl) (Nat.le_of_ble_eq_true rfl) (Nat.le_of_ble_eq_true rfl) hlocks
set_option maxHeartbeats 4000000 in
set_option maxRecDepth 100000 in
theorem x_pass1 (l : Launch) (hst : l.stackTraces = false) (G : QG) (es : Nat) (A : Nat → Prop) (σ ad : QSt) (hF : qWF σ) (x : Int32) (hbad : ¬ (nI 1 ≤ x ∧ x ≤ nI 50)) : vx_Met l yX7_pass wsX7_pass ({ frames := 6, cells := 1, slots := 6, locals := 82 } : Room) (qX G es A σ ad [.ref (ad 0 0), .int (x)]) qNR (qXX "java/lang/IllegalArgumentException") 1 6 A := by
  refine vx_ofW (cc := cX7_pass) (maxL := 4) (ret := (some .int)) (by decide) rfl ?_
  intro p e s m args below meth c s₁ B hml htab hv
  obtain ⟨rfl, hC, hW, hZ, hT⟩ := hv
  have hx := B.exec
  have hb := B.bytes
  have hts := atoms_spec (ws := wsX7_pass) B.pre
  have hown : s.vm.findClass RX7 = some m.cls := findClass_of_methodNamed B.named
  have hlocks := B.notSynchronized
  have hB := hF.1
  have hn := hF.n
  have hS : va_S A s.heap s.heap [] := va_S.rf
  have hl := lv_entry ([.ref (ad 0 0), .int (x)]) (n := 4) (Nat.le_of_ble_eq_true rfl)
  rw [lg_entry_eq]
  generalize (lg_sl ([.ref (ad 0 0), .int (x)]) ++ List.replicate (4 - (lg_sl ([.ref (ad 0 0), .int (x)])).length) Slot.unset).toArray = ls at hl ⊢
  have hl : lv_has ls 4 [(0, .ref (ad 0 0)), (1, .int (x))] := hl
  refine lv_iload_n hx hb dX7_pass_0 rfl (lv_at hl 1 rfl) ?_
  refine lv_iconst (v := nI 1) hx hb dX7_pass_1 (by decide) ?_
  refine lv_bipush (v := nI 50) hx hb dX7_pass_2 (by decide) ?_
  refine q_v (va_runS (As := [.int (x), .int (nI 1), .int (nI 50)]) (rest := []) ⟨hx, hb, hml, hown, hts⟩ (m_isWithin l x (nI 1) (nI 50)) (va_cwS 3 hts gX7_pass_X7_isWithin rfl rfl rfl (by decide +kernel) ⟨Nat.le_of_ble_eq_true rfl, Nat.le_of_ble_eq_true rfl⟩) ⟨qU.blind, qU.pre⟩ rfl rfl hl.1 rfl (lv_room (Nat.le_of_ble_eq_true rfl)) dX7_pass_4 ⟨Nat.le_of_ble_eq_true rfl, Nat.le_of_ble_eq_true rfl⟩) hS (fun _ h => h.elim) (fun locs hS => ?_)
  refine q_ti (y := nI 0) (by rw [qB_f hbad]) ?_
  refine q_ne0 (tgt := 21) hx hb (by decide) dX7_pass_7 (by decide) (fun g1 => absurd g1 (by decide)) (fun g1 => ?_)
  exact q_thrW hx hb hst (cls := "java/lang/IllegalArgumentException") (text := "the number of ticks is out of range") hown (by decide) (hts (.classLink RX7 46 "java/lang/IllegalArgumentException") (List.mem_of_getElem? (i := 1) (by decide +kernel))) (hts (.initialized "java/lang/IllegalArgumentException") (List.mem_of_getElem? (i := 2) (by decide +kernel))) (hT _ (List.mem_of_getElem? (i := 12) rfl)) (fun w hw => hts w ((by decide +kernel : ∀ w ∈ (vx_atS RX7 50 "java/lang/IllegalArgumentException" qxn).filter goodWord, w ∈ wsX7_pass) w hw)) qxN_IAE qxG_IAE hC hZ hS hl.1 hml dX7_pass_10 dX7_pass_13 dX7_pass_14 dX7_pass_17 dX7_pass_20 htab (Nat.le_of_ble_eq_true rfl) (Nat.le_of_ble_eq_true rfl) (Nat.le_of_ble_eq_true rfl) (Nat.le_of_ble_eq_true rfl) hlocks
set_option maxHeartbeats 4000000 in
set_option maxRecDepth 100000 in
theorem x_pass2 (l : Launch) (hst : l.stackTraces = false) (G : QG) (es : Nat) (A : Nat → Prop) (σ ad : QSt) (hF : qWF σ) (n0 : Nat) (hn0 : 1 ≤ n0 ∧ n0 ≤ 50) (h5 : 5000 < σ 1 0 + n0) : vx_Met l yX7_pass wsX7_pass ({ frames := 6, cells := 1, slots := 6, locals := 82 } : Room) (qX G es A σ ad [.ref (ad 0 0), .int (nI n0)]) qNR (qXX "java/lang/IllegalStateException") 1 6 A := by
  refine vx_ofW (cc := cX7_pass) (maxL := 4) (ret := (some .int)) (by decide) rfl ?_
  intro p e s m args below meth c s₁ B hml htab hv
  obtain ⟨rfl, hC, hW, hZ, hT⟩ := hv
  have hx := B.exec
  have hb := B.bytes
  have hts := atoms_spec (ws := wsX7_pass) B.pre
  have hown : s.vm.findClass RX7 = some m.cls := findClass_of_methodNamed B.named
  have hlocks := B.notSynchronized
  have hB := hF.1
  have hn := hF.n
  have hS : va_S A s.heap s.heap [] := va_S.rf
  have hl := lv_entry ([.ref (ad 0 0), .int (nI n0)]) (n := 4) (Nat.le_of_ble_eq_true rfl)
  rw [lg_entry_eq]
  generalize (lg_sl ([.ref (ad 0 0), .int (nI n0)]) ++ List.replicate (4 - (lg_sl ([.ref (ad 0 0), .int (nI n0)])).length) Slot.unset).toArray = ls at hl ⊢
  have hl : lv_has ls 4 [(0, .ref (ad 0 0)), (1, .int (nI n0))] := hl
  have iRX7 : ∀ w ∈ wsX70, w ∈ wsX7_pass := by decide +kernel
  have hB1 := hB 1 0
  refine lv_iload_n hx hb dX7_pass_0 rfl (lv_at hl 1 rfl) ?_
  refine lv_iconst (v := nI 1) hx hb dX7_pass_1 (by decide) ?_
  refine lv_bipush (v := nI 50) hx hb dX7_pass_2 (by decide) ?_
  refine q_v (va_runS (As := [.int (nI n0), .int (nI 1), .int (nI 50)]) (rest := []) ⟨hx, hb, hml, hown, hts⟩ (m_isWithin l (nI n0) (nI 1) (nI 50)) (va_cwS 3 hts gX7_pass_X7_isWithin rfl rfl rfl (by decide +kernel) ⟨Nat.le_of_ble_eq_true rfl, Nat.le_of_ble_eq_true rfl⟩) ⟨qU.blind, qU.pre⟩ rfl rfl hl.1 rfl (lv_room (Nat.le_of_ble_eq_true rfl)) dX7_pass_4 ⟨Nat.le_of_ble_eq_true rfl, Nat.le_of_ble_eq_true rfl⟩) hS (fun _ h => h.elim) (fun locs hS => ?_)
  refine q_ti (y := nI 1) (by rw [qB_t (⟨nI_le (by omega) (by omega), nI_le (by omega) (by decide)⟩ : nI 1 ≤ nI n0 ∧ nI n0 ≤ nI 50)]) ?_
  refine q_ne0 (tgt := 21) hx hb (by decide) dX7_pass_7 (by decide) (fun g1 => ?_) (fun g1 => absurd g1 (by decide))
  refine lv_aload_n hx hb dX7_pass_21 rfl (lv_at hl 0 rfl) ?_
  refine q_get (C := RX7) (T := TX7) (N := 7) hx hb hts iRX7 hown hC.1 (hW.to qLV0) rfl 6 (by decide) (hts (.fieldLink RX7 76 "LogWeave" "now" "I") (List.mem_of_getElem? (i := 5) (by decide +kernel))) rfl (v := .int (nI (σ 1 0))) rfl dX7_pass_22 ?_
  refine lv_iload_n hx hb dX7_pass_25 rfl (lv_at hl 1 rfl) ?_
  refine lv_iadd hx hb dX7_pass_26 ?_
  refine q_ti (nI_add (σ 1 0) n0) ?_
  refine lv_sipush (v := nI 5000) hx hb dX7_pass_27 (by decide) ?_
  refine q_le (tgt := 44) hx hb (by omega) (by decide) dX7_pass_30 (by decide) (fun c2 => (by omega)) (fun c2 => ?_)
  exact q_thrW hx hb hst (cls := "java/lang/IllegalStateException") (text := "the tick would be too great") hown (by decide) (hts (.classLink RX7 57 "java/lang/IllegalStateException") (List.mem_of_getElem? (i := 3) (by decide +kernel))) (hts (.initialized "java/lang/IllegalStateException") (List.mem_of_getElem? (i := 4) (by decide +kernel))) (hT _ (List.mem_of_getElem? (i := 13) rfl)) (fun w hw => hts w ((by decide +kernel : ∀ w ∈ (vx_atS RX7 61 "java/lang/IllegalStateException" qxn).filter goodWord, w ∈ wsX7_pass) w hw)) qxN_ISE qxG_ISE hC hZ hS hl.1 hml dX7_pass_33 dX7_pass_36 dX7_pass_37 dX7_pass_40 dX7_pass_43 htab (Nat.le_of_ble_eq_true rfl) (Nat.le_of_ble_eq_true rfl) (Nat.le_of_ble_eq_true rfl) (Nat.le_of_ble_eq_true rfl) hlocks
set_option maxHeartbeats 4000000 in
set_option maxRecDepth 100000 in
theorem x_droppedShare1 (l : Launch) (hst : l.stackTraces = false) (G : QG) (es : Nat) (A : Nat → Prop) (σ ad : QSt) (hF : qWF σ) (h0 : σ 0 0 = 0) : vx_Met l yX7_droppedShare wsX7_droppedShare ({ frames := 6, cells := 1, slots := 6, locals := 82 } : Room) (qX G es A σ ad [.ref (ad 0 0)]) qNR (qXX "java/lang/ArithmeticException") 1 6 A := by
  refine vx_ofW (cc := cX7_droppedShare) (maxL := 4) (ret := (some .float)) (by decide) rfl ?_
  intro p e s m args below meth c s₁ B hml htab hv
  obtain ⟨rfl, hC, hW, hZ, hT⟩ := hv
  have hx := B.exec
  have hb := B.bytes
  have hts := atoms_spec (ws := wsX7_droppedShare) B.pre
  have hown : s.vm.findClass RX7 = some m.cls := findClass_of_methodNamed B.named
  have hlocks := B.notSynchronized
  have hB := hF.1
  have hn := hF.n
  have hS : va_S A s.heap s.heap [] := va_S.rf
  have hl := lv_entry ([.ref (ad 0 0)]) (n := 4) (Nat.le_of_ble_eq_true rfl)
  rw [lg_entry_eq]
  generalize (lg_sl ([.ref (ad 0 0)]) ++ List.replicate (4 - (lg_sl ([.ref (ad 0 0)])).length) Slot.unset).toArray = ls at hl ⊢
  have hl : lv_has ls 4 [(0, .ref (ad 0 0))] := hl
  have iRX7 : ∀ w ∈ wsX70, w ∈ wsX7_droppedShare := by decide +kernel
  refine lv_aload_n hx hb dX7_droppedShare_0 rfl (lv_at hl 0 rfl) ?_
  refine q_get (C := RX7) (T := TX7) (N := 7) hx hb hts iRX7 hown hC.1 (hW.to qLV0) rfl 0 (by decide) (hts (.fieldLink RX7 10 "LogWeave" "lineList" "Ljava/util/ArrayList;") (List.mem_of_getElem? (i := 3) (by decide +kernel))) rfl (v := .ref (ad 1 0)) rfl dX7_droppedShare_1 ?_
  refine q_v (va_runV (As := []) (rest := []) ⟨hx, hb, hml, hown, hts⟩ (m_size l G (ad 1 0) _ _ (nI (σ 0 0))) (cwV 0 hts gX7_droppedShare_Jx4a65c_size_8abf5 rfl rfl rfl (by decide +kernel) ⟨Nat.le_of_ble_eq_true rfl, Nat.le_of_ble_eq_true rfl⟩) ⟨qO.blind, qrecv hC (hW.to (qLV1 (j := 0) (by decide))) rfl, qO.pre hC (hW.lob (by decide))⟩ rfl rfl hl.1 rfl (lv_room (Nat.le_of_ble_eq_true rfl)) dX7_droppedShare_4 ⟨Nat.le_of_ble_eq_true rfl, Nat.le_of_ble_eq_true rfl⟩) hS (fun _ h => h.elim) (fun locs hS => ?_)
  refine lv_istore_n (lv' := [(1, .int (nI (σ 0 0))), (0, .ref (ad 0 0))]) hx hb dX7_droppedShare_7 rfl hl (by decide) rfl (fun ls hl => ?_)
  refine lv_iload_n hx hb dX7_droppedShare_8 rfl (lv_at hl 0 rfl) ?_
  refine q_ne0 (tgt := 23) hx hb (q31 (hB _ _)) dX7_droppedShare_9 (by decide) (fun g1 => (by omega)) (fun g1 => ?_)
  exact q_thrW hx hb hst (cls := "java/lang/ArithmeticException") (text := "no lines have come") hown (by decide) (hts (.classLink RX7 276 "java/lang/ArithmeticException") (List.mem_of_getElem? (i := 1) (by decide +kernel))) (hts (.initialized "java/lang/ArithmeticException") (List.mem_of_getElem? (i := 2) (by decide +kernel))) (hT _ (List.mem_of_getElem? (i := 14) rfl)) (fun w hw => hts w ((by decide +kernel : ∀ w ∈ (vx_atS RX7 280 "java/lang/ArithmeticException" qxn).filter goodWord, w ∈ wsX7_droppedShare) w hw)) qxN_AE qxG_AE hC hZ hS hl.1 hml dX7_droppedShare_12 dX7_droppedShare_15 dX7_droppedShare_16 dX7_droppedShare_19 dX7_droppedShare_22 htab (Nat.le_of_ble_eq_true rfl) (Nat.le_of_ble_eq_true rfl) (Nat.le_of_ble_eq_true rfl) (Nat.le_of_ble_eq_true rfl) hlocks
