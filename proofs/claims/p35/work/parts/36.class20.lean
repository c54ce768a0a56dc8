def qfRq (σ : QSt) (s0 r0 : Nat) : QSt := qad σ 4 [(192, σ 1 0 + 2 + qarch σ s0 0 0 0 / 3), (193, 0), (194, 0), (208, s0), (209, r0)]
theorem qfRq_ha {s0 r0 d : Nat} : (List.all [(192, d), (193, 0), (194, 0), (208, s0), (209, r0)] (fun x => decide (64 + 32 * 4 ≤ x.1) && decide (x.1 < 96 + 32 * 4))) = true := rfl

set_option maxHeartbeats 4000000 in
set_option maxRecDepth 100000 in
theorem m_request (l : Launch) (G : QG) (es : Nat) (A : Nat → Prop) (σ ad : QSt) (hF : qWF σ) (s0 r0 : Nat) (hs0 : s0 < 4) (hr0 : r0 < 5) (hn4 : σ 0 4 < 20) (ms : Nat) (hms : σ 0 4 < σ 32 4 ∨ qcap (σ 0 4) (σ 32 4) ≤ ms) : Met l yX7_request wsX7_request ({ frames := 7, cells := 4, slots := (12 + ms), locals := 171 } : Room) (qW G es A σ ad [.ref (ad 0 0), .int (nI s0), .int (nI r0)]) (qWV (some (.int (nI (σ 0 4)))) (fun H1 => ∃ ad', qAE σ ad ad' ∧ qLW G es A (qfRq σ s0 r0) ad' H1) A) 4 (12 + ms) A := by
  refine Met.ofW (cc := cX7_request) (maxL := 5) (ret := (some .int)) (by decide) rfl ?_
  intro p e s m args below meth c s₁ B hml hv
  obtain ⟨rfl, hC, hW, hZ, hA⟩ := hv
  have hx := B.exec
  have hb := B.bytes
  have hr := B.returns
  have hts := atoms_spec (ws := wsX7_request) B.pre
  have hown : s.vm.findClass RX7 = some m.cls := findClass_of_methodNamed B.named
  have hlocks := B.notSynchronized
  have hB := hF.1
  have hn := hF.n
  have hS : va_S A s.heap s.heap [] := va_S.rf
  have hl := lv_entry ([.ref (ad 0 0), .int (nI s0), .int (nI r0)]) (n := 5) (Nat.le_of_ble_eq_true rfl)
  rw [lg_entry_eq]
  generalize (lg_sl ([.ref (ad 0 0), .int (nI s0), .int (nI r0)]) ++ List.replicate (5 - (lg_sl ([.ref (ad 0 0), .int (nI s0), .int (nI r0)])).length) Slot.unset).toArray = ls at hl ⊢
  have hl : lv_has ls 5 [(0, .ref (ad 0 0)), (1, .int (nI s0)), (2, .int (nI r0))] := hl
  have iRX7 : ∀ w ∈ wsX70, w ∈ wsX7_request := by decide +kernel
  have iRX1 : ∀ w ∈ wsX10, w ∈ wsX7_request := by decide +kernel
  have iRX5 : ∀ w ∈ wsX50, w ∈ wsX7_request := by decide +kernel
  refine lv_iload_n hx hb dX7_request_0 rfl (lv_at hl 1 rfl) ?_
  refine q_v (va_runS (As := [.int (nI s0)]) (rest := []) ⟨hx, hb, hml, hown, hts⟩ (m_isSource l (nI s0)) (va_cwS 1 hts gX7_request_X7_isSource rfl rfl rfl (by decide +kernel) ⟨Nat.le_of_ble_eq_true rfl, Nat.le_of_ble_eq_true rfl⟩) ⟨qU.blind, qU.pre⟩ rfl rfl hl.1 rfl (lv_room (Nat.le_of_ble_eq_true rfl)) dX7_request_1 ⟨Nat.le_of_ble_eq_true rfl, Nat.le_add_right_of_le (Nat.le_of_ble_eq_true rfl)⟩) hS (fun _ h => h.elim) (fun locs hS => ?_)
  refine q_ti (y := nI 1) (by rw [qB_t (⟨nI_le (Nat.zero_le _) (by omega), nI_le (by omega) (by decide)⟩ : nI 0 ≤ nI s0 ∧ nI s0 ≤ nI 3)]) ?_
  refine q_eq0 (tgt := 14) hx hb (by decide) dX7_request_4 (by decide) (fun t1 => absurd t1 (by decide)) (fun t1 => ?_)
  refine lv_iload_n hx hb dX7_request_7 rfl (lv_at hl 2 rfl) ?_
  refine q_v (va_runS (As := [.int (nI r0)]) (rest := []) ⟨hx, hb, hml, hown, hts⟩ (m_isRank l (nI r0)) (va_cwS 1 hts gX7_request_X7_isRank rfl rfl rfl (by decide +kernel) ⟨Nat.le_of_ble_eq_true rfl, Nat.le_of_ble_eq_true rfl⟩) ⟨qU.blind, qU.pre⟩ rfl rfl hl.1 rfl (lv_room (Nat.le_of_ble_eq_true rfl)) dX7_request_8 ⟨Nat.le_of_ble_eq_true rfl, Nat.le_add_right_of_le (Nat.le_of_ble_eq_true rfl)⟩) hS (fun _ h => h.elim) (fun locs hS => ?_)
  refine q_ti (y := nI 1) (by rw [qB_t (⟨nI_le (Nat.zero_le _) (by omega), nI_le (by omega) (by decide)⟩ : nI 0 ≤ nI r0 ∧ nI r0 ≤ nI 4)]) ?_
  refine q_ne0 (tgt := 24) hx hb (by decide) dX7_request_11 (by decide) (fun t2 => ?_) (fun t2 => absurd t2 (by decide))
  refine lv_aload_n hx hb dX7_request_24 rfl (lv_at hl 0 rfl) ?_
  refine q_get (C := RX7) (T := TX7) (N := 7) hx hb hts iRX7 hown hC.1 (hW.to qLV0) rfl 4 (by decide) (hts (.fieldLink RX7 25 "LogWeave" "requestList" "Ljava/util/ArrayList;") (List.mem_of_getElem? (i := 5) (by decide +kernel))) rfl (v := .ref (ad 1 4)) rfl dX7_request_25 ?_
  refine q_v (va_runV (As := []) (rest := []) ⟨hx, hb, hml, hown, hts⟩ (m_size l G (ad 1 4) _ _ (nI (σ 0 4))) (cwV 0 hts gX7_request_Jx4a65c_size_8abf5 rfl rfl rfl (by decide +kernel) ⟨Nat.le_of_ble_eq_true rfl, Nat.le_of_ble_eq_true rfl⟩) ⟨qO.blind, qrecv hC (hW.to (qLV1 (j := 4) (by decide))) rfl, qO.pre hC (hW.lob (by decide))⟩ rfl rfl hl.1 rfl (lv_room (Nat.le_of_ble_eq_true rfl)) dX7_request_28 ⟨Nat.le_of_ble_eq_true rfl, Nat.le_add_right_of_le (Nat.le_of_ble_eq_true rfl)⟩) hS (fun _ h => h.elim) (fun locs hS => ?_)
  refine lv_bipush (v := nI 20) hx hb dX7_request_31 (by decide) ?_
  refine q_lt (tgt := 46) hx hb (q31 (hB _ _)) (by decide) dX7_request_33 (by decide) (fun g1 => ?_) (fun g1 => (by omega))
  refine lv_aload_n hx hb dX7_request_46 rfl (lv_at hl 0 rfl) ?_
  refine q_new (own := RX7) (C := RX1) (T := TX1) (N := 4) (ci := 4) hx hb hts iRX1 tyX1 tyX1_ok hown (hts (.classLink RX7 164 RX1) (List.mem_of_getElem? (i := 6) (by decide +kernel))) (hts (.instantiable RX1 4) (List.mem_of_getElem? (i := 7) (by decide +kernel))) (hts (.initialized RX1) (List.mem_of_getElem? (i := 8) (by decide +kernel))) hC.1 hS rfl [.int (nI 0), .int (nI 0), .int (nI 0), .int (nI 0)] (fun j hj => by match j, hj with | 0, _ => rfl | 1, _ => rfl | 2, _ => rfl | 3, _ => rfl) (by show 0 + 1 ≤ 4; omega) (by show 0 + 4 ≤ 12 + ms; omega) dX7_request_47 (fun H1 hat hzH1 hko hS => ?_)
  have n0 := q_nolive hW (Nat.le_refl _)
  have hW := q_kept1 hW hko
  refine lv_dup hx hb dX7_request_50 rfl ?_
  refine lv_iload_n hx hb dX7_request_51 rfl (lv_at hl 1 rfl) ?_
  refine lv_iconst (v := nI 0) hx hb dX7_request_52 (by decide) ?_
  refine lv_iconst (v := -1) hx hb dX7_request_53 (by decide) ?_
  refine q_ti (y := nI 0 - 1) (by decide) ?_
  refine lv_iconst (v := nI 0) hx hb dX7_request_54 (by decide) ?_
  refine q_wn (va_runIN (As := [.int (nI s0), .int (nI 0), .int (nI 0 - 1), .int (nI 0)]) (rest := [.ref (s.heap.size), .ref (ad 0 0)]) ⟨hx, hb, hml, hown, hts⟩ (m_initFilter l G (fun x => x = s.heap.size) H1.size s.heap.size (nI s0) (nI 0) (nI 0 - 1) (nI 0)) ⟨va_cnB 4 hts gX7_request_X1_init_n166 rfl rfl rfl (qm_RX7_166 hC) (hts (.initialized RX1) (List.mem_of_getElem? (i := 8) (by decide +kernel))) (by decide +kernel) ⟨Nat.le_of_ble_eq_true rfl, Nat.le_of_ble_eq_true rfl⟩, rfl, (hts (.instanceMethod yX1_init) (List.mem_of_getElem? (i := 29) (by decide +kernel)))⟩ ⟨qK.blind, qK.pre hC hat rfl rfl⟩ rfl rfl hl.1 rfl (lv_room (Nat.le_of_ble_eq_true rfl)) dX7_request_55 ⟨Nat.le_of_ble_eq_true rfl, Nat.le_add_right_of_le (Nat.le_of_ble_eq_true rfl)⟩) hS (fun x hx => by cases hx; exact hA _ (by omega)) (fun x hx => by cases hx; exact hA _ (by omega)) (fun H2 locs hvH2 hzH2 hk hS => ?_)
  have hW := q_kept2 hW n0 hk
  refine q_v (va_runV (As := [.ref (s.heap.size)]) (rest := []) ⟨hx, hb, hml, hown, hts⟩ (m_archivedLinesX l G es A σ ad hF s.heap.size s0 0 0 0 (by decide) (by omega) (by decide) (by decide)) (cwV 1 hts gX7_request_X7_archivedLines rfl rfl rfl (by decide +kernel) ⟨Nat.le_of_ble_eq_true rfl, Nat.le_of_ble_eq_true rfl⟩) ⟨qR1.blind, qrecv hC (hW.to qLV0) rfl, qR1.pre hC hW hvH2⟩ rfl rfl hl.1 rfl (lv_room (Nat.le_of_ble_eq_true rfl)) dX7_request_58 ⟨Nat.le_of_ble_eq_true rfl, Nat.le_add_right_of_le (Nat.le_of_ble_eq_true rfl)⟩) hS (fun _ h => h.elim) (fun locs hS => ?_)
  refine lv_istore_n (lv' := [(3, .int (nI (qarch σ s0 0 0 0))), (0, .ref (ad 0 0)), (1, .int (nI s0)), (2, .int (nI r0))]) hx hb dX7_request_61 rfl hl (by decide) rfl (fun ls hl => ?_)
  refine lv_aload_n hx hb dX7_request_62 rfl (lv_at hl 1 rfl) ?_
  refine q_get (C := RX7) (T := TX7) (N := 7) hx hb hts iRX7 hown hC.1 (hW.to qLV0) rfl 6 (by decide) (hts (.fieldLink RX7 76 "LogWeave" "now" "I") (List.mem_of_getElem? (i := 9) (by decide +kernel))) rfl (v := .int (nI (σ 1 0))) rfl dX7_request_63 ?_
  refine lv_iconst (v := nI 2) hx hb dX7_request_66 (by decide) ?_
  refine lv_iadd hx hb dX7_request_67 ?_
  refine q_ti (nI_add (σ 1 0) 2) ?_
  refine lv_iload_n hx hb dX7_request_68 rfl (lv_at hl 0 rfl) ?_
  refine lv_iconst (v := nI 3) hx hb dX7_request_69 (by decide) ?_
  refine lv_idiv hx hb dX7_request_70 (by decide) ?_
  refine q_ti (pk_div (by have := qarch_lt hF s0 0 0 0; omega) (by decide) (by decide)) ?_
  refine lv_iadd hx hb dX7_request_71 ?_
  refine q_ti (nI_add ((σ 1 0) + 2) ((qarch σ s0 0 0 0) / 3)) ?_
  refine lv_istore (lv' := [(4, .int (nI (((σ 1 0) + 2) + ((qarch σ s0 0 0 0) / 3)))), (3, .int (nI (qarch σ s0 0 0 0))), (0, .ref (ad 0 0)), (1, .int (nI s0)), (2, .int (nI r0))]) hx hb dX7_request_72 hl (by decide) rfl (fun ls hl => ?_)
  refine lv_aload_n hx hb dX7_request_74 rfl (lv_at hl 2 rfl) ?_
  refine q_get (C := RX7) (T := TX7) (N := 7) hx hb hts iRX7 hown hC.1 (hW.to qLV0) rfl 4 (by decide) (hts (.fieldLink RX7 25 "LogWeave" "requestList" "Ljava/util/ArrayList;") (List.mem_of_getElem? (i := 5) (by decide +kernel))) rfl (v := .ref (ad 1 4)) rfl dX7_request_75 ?_
  refine q_new (own := RX7) (C := RX5) (T := TX5) (N := 4) (ci := 8) hx hb hts iRX5 tyX5 tyX5_ok hown (hts (.classLink RX7 173 RX5) (List.mem_of_getElem? (i := 10) (by decide +kernel))) (hts (.instantiable RX5 4) (List.mem_of_getElem? (i := 11) (by decide +kernel))) (hts (.initialized RX5) (List.mem_of_getElem? (i := 12) (by decide +kernel))) hC.1 hS rfl [.null, .int (nI 0), .int (nI 0), .int (nI 0)] (fun j hj => by match j, hj with | 0, _ => rfl | 1, _ => rfl | 2, _ => rfl | 3, _ => rfl) (by show 0 + 1 + 0 + 0 + 1 ≤ 4; omega) (by show 0 + 4 + 0 + 0 + 4 ≤ 12 + ms; omega) dX7_request_78 (fun H3 hat hzH3 hko hS => ?_)
  have n1 := q_nolive hW (Nat.le_refl _)
  have hW := q_kept1 hW hko
  have hvR := hat
  refine lv_dup hx hb dX7_request_81 rfl ?_
  refine q_new (own := RX7) (C := RX1) (T := TX1) (N := 4) (ci := 4) hx hb hts iRX1 tyX1 tyX1_ok hown (hts (.classLink RX7 164 RX1) (List.mem_of_getElem? (i := 6) (by decide +kernel))) (hts (.instantiable RX1 4) (List.mem_of_getElem? (i := 7) (by decide +kernel))) (hts (.initialized RX1) (List.mem_of_getElem? (i := 8) (by decide +kernel))) hC.1 hS rfl [.int (nI 0), .int (nI 0), .int (nI 0), .int (nI 0)] (fun j hj => by match j, hj with | 0, _ => rfl | 1, _ => rfl | 2, _ => rfl | 3, _ => rfl) (by show 0 + 1 + 0 + 0 + 1 + 1 ≤ 4; omega) (by show 0 + 4 + 0 + 0 + 4 + 4 ≤ 12 + ms; omega) dX7_request_82 (fun H4 hat hzH4 hko hS => ?_)
  have n2 := q_nolive hW (Nat.le_refl _)
  have hW := q_kept1 hW hko
  have hvR := hvR.kept (hko _ hvR.lt)
  refine lv_dup hx hb dX7_request_85 rfl ?_
  refine lv_iload_n hx hb dX7_request_86 rfl (lv_at hl 3 rfl) ?_
  refine lv_iload_n hx hb dX7_request_87 rfl (lv_at hl 4 rfl) ?_
  refine lv_iconst (v := -1) hx hb dX7_request_88 (by decide) ?_
  refine q_ti (y := nI 0 - 1) (by decide) ?_
  refine lv_iconst (v := nI 0) hx hb dX7_request_89 (by decide) ?_
  refine q_wn (va_runIN (As := [.int (nI s0), .int (nI r0), .int (nI 0 - 1), .int (nI 0)]) (rest := [.ref (H3.size), .ref (H2.size), .ref (H2.size), .ref (ad 1 4)]) ⟨hx, hb, hml, hown, hts⟩ (m_initFilter l G (fun x => x = H3.size) H4.size H3.size (nI s0) (nI r0) (nI 0 - 1) (nI 0)) ⟨va_cnB 4 hts gX7_request_X1_init_n166 rfl rfl rfl (qm_RX7_166 hC) (hts (.initialized RX1) (List.mem_of_getElem? (i := 8) (by decide +kernel))) (by decide +kernel) ⟨Nat.le_of_ble_eq_true rfl, Nat.le_of_ble_eq_true rfl⟩, rfl, (hts (.instanceMethod yX1_init) (List.mem_of_getElem? (i := 29) (by decide +kernel)))⟩ ⟨qK.blind, qK.pre hC hat rfl rfl⟩ rfl rfl hl.1 rfl (lv_room (Nat.le_of_ble_eq_true rfl)) dX7_request_90 ⟨Nat.le_of_ble_eq_true rfl, Nat.le_add_right_of_le (Nat.le_of_ble_eq_true rfl)⟩) hS (fun x hx => by cases hx; exact hA _ (by omega)) (fun x hx => by cases hx; exact hA _ (by omega)) (fun H5 locs hvH5 hzH5 hk hS => ?_)
  have hW := q_kept2 hW n2 hk
  have hvR := hvR.kept (hk _ hvR.lt (by omega))
  refine lv_iload hx hb dX7_request_93 (lv_at hl 0 rfl) ?_
  refine q_wn (va_runIN (As := [.ref (H3.size), .int (nI (((σ 1 0) + 2) + ((qarch σ s0 0 0 0) / 3)))]) (rest := [.ref (H2.size), .ref (ad 1 4)]) ⟨hx, hb, hml, hown, hts⟩ (m_initRequest l G (fun x => x = H2.size) H5.size H2.size H3.size (nI (σ 1 0 + 2 + qarch σ s0 0 0 0 / 3))) ⟨va_cnB 2 hts gX7_request_X5_init_n175 rfl rfl rfl (qm_RX7_175 hC) (hts (.initialized RX5) (List.mem_of_getElem? (i := 12) (by decide +kernel))) (by decide +kernel) ⟨Nat.le_of_ble_eq_true rfl, Nat.le_of_ble_eq_true rfl⟩, rfl, (hts (.instanceMethod yX5_init) (List.mem_of_getElem? (i := 71) (by decide +kernel)))⟩ ⟨qK.blind, qK.pre hC hvR rfl rfl⟩ rfl rfl hl.1 rfl (lv_room (Nat.le_of_ble_eq_true rfl)) dX7_request_95 ⟨Nat.le_of_ble_eq_true rfl, Nat.le_add_right_of_le (Nat.le_of_ble_eq_true rfl)⟩) hS (fun x hx => by cases hx; exact hA _ (by omega)) (fun x hx => by cases hx; exact hA _ (by omega)) (fun H6 locs hvR hz6 hk hS => ?_)
  have hW := q_kept2 hW n1 hk
  have hvF := hvH5.kept (hk _ hvH5.lt (by omega))
  have hW9 : qLW G es A σ (qup (qup ad 12 (σ 0 4) H2.size) 13 (σ 0 4) H3.size) H6 := hW.pend hF (J := 4) (by decide) _ _
  have n19 : ¬ qlive (qLV G es σ (qup (qup ad 12 (σ 0 4) H2.size) 13 (σ 0 4) H3.size)) (qup (qup ad 12 (σ 0 4) H2.size) 13 (σ 0 4) H3.size) H2.size := qlive_pend hF (J := 4) (by decide) n1
  have n29 : ¬ qlive (qLV G es σ (qup (qup ad 12 (σ 0 4) H2.size) 13 (σ 0 4) H3.size)) (qup (qup ad 12 (σ 0 4) H2.size) 13 (σ 0 4) H3.size) H3.size := qlive_pend hF (J := 4) (by decide) n2
  refine q_ad (va_runV (As := [.ref (H2.size)]) (rest := []) ⟨hx, hb, hml, hown, hts⟩ (m_add l G es A σ (qup (qup ad 12 (σ 0 4) H2.size) 13 (σ 0 4) H3.size) 4 (hF.cap 4) (hF.c 4) (by decide) H2.size [.ref H3.size, .int (nI (σ 1 0 + 2 + qarch σ s0 0 0 0 / 3)), .int (nI 0), .int (nI 0)] ms hms) (cwV 1 hts gX7_request_Jx4a65c_add_9ea2d rfl rfl rfl (by decide +kernel) ⟨Nat.le_of_ble_eq_true rfl, Nat.le_of_ble_eq_true rfl⟩) ⟨qWv.blind, qrecv hC (hW9.to (qLV1 (j := 4) (by decide))) rfl, qWv.pre hC hW9 hvR n19 hZ hS (fun _ h => h) (fun q h => hA q (Nat.le_trans hS.1 h))⟩ rfl rfl hl.1 rfl (lv_room (Nat.le_of_ble_eq_true rfl)) dX7_request_98 ⟨by show 0 + 1 + 0 + 0 + 1 + 1 + 0 + 0 + 1 ≤ 4; omega, by show 0 + 4 + 0 + 0 + 4 + 4 + 0 + 0 + ms ≤ 12 + ms; omega⟩) hS (fun _ h => h) (fun _ h => h) (fun H7 locs hG hz7 hS => ?_)
  have e0 : qfRq σ s0 r0 0 4 = σ 0 4 + 1 := qad_0 qfRq_ha
  have e3 : qLV G es (qfRq σ s0 r0) (qup (qup ad 12 (σ 0 4) H2.size) 13 (σ 0 4) H3.size) 12 (σ 0 4) = some (.inr (8, [.ref H3.size, .int (nI (σ 1 0 + 2 + qarch σ s0 0 0 0 / 3)), .int (nI 0), .int (nI 0)])) := by rw [qLV12 (by rw [e0]; omega), show qfRq σ s0 r0 192 (σ 0 4) = (σ 1 0 + 2 + qarch σ s0 0 0 0 / 3) from qad_in rfl (by decide), show qfRq σ s0 r0 193 (σ 0 4) = 0 from qad_in rfl (by decide), show qfRq σ s0 r0 194 (σ 0 4) = 0 from qad_in rfl (by decide), qup_s]
  have e4 : qLV G es (qfRq σ s0 r0) (qup (qup ad 12 (σ 0 4) H2.size) 13 (σ 0 4) H3.size) 13 (σ 0 4) = some (.inr (4, [.int (nI s0), .int (nI r0), .int (nI 0 - 1), .int (nI 0)])) := by rw [qLV13 (by rw [e0]; omega), show qfRq σ s0 r0 208 (σ 0 4) = s0 from qad_in rfl (by decide), show qfRq σ s0 r0 209 (σ 0 4) = r0 from qad_in rfl (by decide)]
  obtain ⟨q9, hW, -⟩ := hW9.grow (σ' := qfRq σ s0 r0) (J := 4) (by decide) (hF.c 4) hG (fun q h => hA q (Nat.le_trans (by omega) h)) hvR hvF n19 n29 (by omega) (hA _ (by omega)) (hA _ (by omega)) ((qup_k (by decide)).trans (qup_s _ _ _ _)) (qup_s _ _ _ _) e0 (qad_16 qfRq_ha) (qad_32 qfRq_ha) (fun r j g1 g2 _ => qad_r qfRq_ha g1 g2) e3 e4
  refine lv_pop hx hb dX7_request_101 rfl ?_
  refine lv_aload_n hx hb dX7_request_102 rfl (lv_at hl 2 rfl) ?_
  refine q_get (C := RX7) (T := TX7) (N := 7) hx hb hts iRX7 hown hC.1 (hW.to qLV0) rfl 4 (by decide) (hts (.fieldLink RX7 25 "LogWeave" "requestList" "Ljava/util/ArrayList;") (List.mem_of_getElem? (i := 5) (by decide +kernel))) rfl (v := .ref (ad 1 4)) rfl dX7_request_103 ?_
  refine q_v (va_runV (As := []) (rest := []) ⟨hx, hb, hml, hown, hts⟩ (m_size l G (ad 1 4) _ _ (nI (qfRq σ s0 r0 0 4))) (cwV 0 hts gX7_request_Jx4a65c_size_8abf5 rfl rfl rfl (by decide +kernel) ⟨Nat.le_of_ble_eq_true rfl, Nat.le_of_ble_eq_true rfl⟩) ⟨qO.blind, qrecv hC (hW.to (qLV1 (j := 4) (by decide))) rfl, qO.pre hC (hW.lob (by decide))⟩ rfl rfl hl.1 rfl (lv_room (Nat.le_of_ble_eq_true rfl)) dX7_request_106 ⟨by show 0 + 1 + 0 + 0 + 1 + 1 + 0 + 0 + 1 + 0 ≤ 4; omega, by show 0 + 4 + 0 + 0 + 4 + 4 + 0 + 0 + ms + 0 ≤ 12 + ms; omega⟩) hS (fun _ h => h.elim) (fun locs hS => ?_)
  refine q_ti (y := nI (σ 0 4 + 1)) (by rw [e0]) ?_
  refine lv_iconst (v := nI 1) hx hb dX7_request_109 (by decide) ?_
  refine lv_isub hx hb dX7_request_110 ?_
  refine q_ti (pk_sub (by omega)) ?_
  refine W.widen (k := 4) (n := 12 + ms) (by omega) (by omega) ?_
  exact W.iret hx hb hr (fun t ht _ => ⟨rfl, by rw [ht]; exact ⟨_, qAE.pend (J := 4), hW⟩, hS.F ht⟩) hS.2.2 dX7_request_111
