set_option maxHeartbeats 4000000 in
set_option maxRecDepth 100000 in
theorem m_addAlert (l : Launch) (G : QG) (es : Nat) (A : Nat → Prop) (σ ad : QSt) (hF : qWF σ) (s0 r0 P w0 g0 n0 h0 : Nat) (hs0 : s0 < 4) (hr0 : r0 < 5) (hP : P ≤ 3) (hw0 : w0 < 100) (hg0 : 1 ≤ g0 ∧ g0 ≤ 9) (hn0 : 1 ≤ n0 ∧ n0 ≤ 50) (hh0 : h0 ≤ 20) (hn2 : σ 0 2 < 6) (hn3 : σ 0 3 < 1300) (h16 : σ 16 3 + 1 < 1073741824) (h162 : σ 16 2 + 1 < 1073741824) (hm : ∀ i j, i ≤ j → j < σ 0 0 → σ 67 i ≤ σ 67 j) (hg : ∀ l0, σ 70 l0 ≤ 999999) (ms m3 : Nat) (hms : σ 0 2 < σ 32 2 ∨ qcap (σ 0 2) (σ 32 2) ≤ ms) (hm3 : σ 0 3 < σ 32 3 ∨ qcap (σ 0 3) (σ 32 3) ≤ m3) : Met l yX7_addAlert wsX7_addAlert ({ frames := 8, cells := 6, slots := (22 + ms + m3), locals := 192 } : Room) (qW G es A σ ad [.ref (ad 0 0), .int (nI s0), .int (nI r0), .int (nI P - 1), .int (nI w0), .int (nI g0), .int (nI n0), .int (nI h0)]) (qWV (some (.int (nI (σ 0 2)))) (fun H1 => ∃ ad', qAE σ ad ad' ∧ qLW G es A (qfAa σ s0 r0 P w0 g0 n0 h0) ad' H1) A) 6 (22 + ms + m3) A := by
  refine Met.ofW (cc := cX7_addAlert) (maxL := 11) (ret := (some .int)) (by decide) rfl ?_
  intro p e s m args below meth c s₁ B hml hv
  obtain ⟨rfl, hC, hW, hZ, hA⟩ := hv
  have hx := B.exec
  have hb := B.bytes
  have hr := B.returns
  have hts := atoms_spec (ws := wsX7_addAlert) B.pre
  have hown : s.vm.findClass RX7 = some m.cls := findClass_of_methodNamed B.named
  have hlocks := B.notSynchronized
  have hB := hF.1
  have hn := hF.n
  have hS : va_S A s.heap s.heap [] := va_S.rf
  have hl := lv_entry ([.ref (ad 0 0), .int (nI s0), .int (nI r0), .int (nI P - 1), .int (nI w0), .int (nI g0), .int (nI n0), .int (nI h0)]) (n := 11) (Nat.le_of_ble_eq_true rfl)
  rw [lg_entry_eq]
  generalize (lg_sl ([.ref (ad 0 0), .int (nI s0), .int (nI r0), .int (nI P - 1), .int (nI w0), .int (nI g0), .int (nI n0), .int (nI h0)]) ++ List.replicate (11 - (lg_sl ([.ref (ad 0 0), .int (nI s0), .int (nI r0), .int (nI P - 1), .int (nI w0), .int (nI g0), .int (nI n0), .int (nI h0)])).length) Slot.unset).toArray = ls at hl ⊢
  have hl : lv_has ls 11 [(0, .ref (ad 0 0)), (1, .int (nI s0)), (2, .int (nI r0)), (3, .int (nI P - 1)), (4, .int (nI w0)), (5, .int (nI g0)), (6, .int (nI n0)), (7, .int (nI h0))] := hl
  have iRX7 : ∀ w ∈ wsX70, w ∈ wsX7_addAlert := by decide +kernel
  have iRX0 : ∀ w ∈ wsX00, w ∈ wsX7_addAlert := by decide +kernel
  have iRX1 : ∀ w ∈ wsX10, w ∈ wsX7_addAlert := by decide +kernel
  refine lv_iload_n hx hb dX7_addAlert_0 rfl (lv_at hl 1 rfl) ?_
  refine q_v (va_runS (As := [.int (nI s0)]) (rest := []) ⟨hx, hb, hml, hown, hts⟩ (m_isSource l (nI s0)) (va_cwS 1 hts gX7_addAlert_X7_isSource rfl rfl rfl (by decide +kernel) ⟨Nat.le_of_ble_eq_true rfl, Nat.le_of_ble_eq_true rfl⟩) ⟨qU.blind, qU.pre⟩ rfl rfl hl.1 rfl (lv_room (Nat.le_of_ble_eq_true rfl)) dX7_addAlert_1 ⟨Nat.le_of_ble_eq_true rfl, Nat.le_add_right_of_le (Nat.le_add_right_of_le (Nat.le_of_ble_eq_true rfl))⟩) hS (fun _ h => h.elim) (fun locs hS => ?_)
  refine q_ti (y := nI 1) (by rw [qB_t (⟨nI_le (Nat.zero_le _) (by omega), nI_le (by omega) (by decide)⟩ : nI 0 ≤ nI s0 ∧ nI s0 ≤ nI 3)]) ?_
  refine q_eq0 (tgt := 64) hx hb (by decide) dX7_addAlert_4 (by decide) (fun t1 => absurd t1 (by decide)) (fun t1 => ?_)
  refine lv_iload_n hx hb dX7_addAlert_7 rfl (lv_at hl 2 rfl) ?_
  refine q_v (va_runS (As := [.int (nI r0)]) (rest := []) ⟨hx, hb, hml, hown, hts⟩ (m_isRank l (nI r0)) (va_cwS 1 hts gX7_addAlert_X7_isRank rfl rfl rfl (by decide +kernel) ⟨Nat.le_of_ble_eq_true rfl, Nat.le_of_ble_eq_true rfl⟩) ⟨qU.blind, qU.pre⟩ rfl rfl hl.1 rfl (lv_room (Nat.le_of_ble_eq_true rfl)) dX7_addAlert_8 ⟨Nat.le_of_ble_eq_true rfl, Nat.le_add_right_of_le (Nat.le_add_right_of_le (Nat.le_of_ble_eq_true rfl))⟩) hS (fun _ h => h.elim) (fun locs hS => ?_)
  refine q_ti (y := nI 1) (by rw [qB_t (⟨nI_le (Nat.zero_le _) (by omega), nI_le (by omega) (by decide)⟩ : nI 0 ≤ nI r0 ∧ nI r0 ≤ nI 4)]) ?_
  refine q_eq0 (tgt := 64) hx hb (by decide) dX7_addAlert_11 (by decide) (fun t2 => absurd t2 (by decide)) (fun t2 => ?_)
  refine lv_iload_n hx hb dX7_addAlert_14 rfl (lv_at hl 3 rfl) ?_
  refine lv_iconst (v := -1) hx hb dX7_addAlert_15 (by decide) ?_
  refine lv_iconst (v := nI 2) hx hb dX7_addAlert_16 (by decide) ?_
  refine q_v (va_runS (As := [.int (nI P - 1), .int (-1), .int (nI 2)]) (rest := []) ⟨hx, hb, hml, hown, hts⟩ (m_isWithin l (nI P - 1) (-1) (nI 2)) (va_cwS 3 hts gX7_addAlert_X7_isWithin rfl rfl rfl (by decide +kernel) ⟨Nat.le_of_ble_eq_true rfl, Nat.le_of_ble_eq_true rfl⟩) ⟨qU.blind, qU.pre⟩ rfl rfl hl.1 rfl (lv_room (Nat.le_of_ble_eq_true rfl)) dX7_addAlert_17 ⟨Nat.le_of_ble_eq_true rfl, Nat.le_add_right_of_le (Nat.le_add_right_of_le (Nat.le_of_ble_eq_true rfl))⟩) hS (fun _ h => h.elim) (fun locs hS => ?_)
  refine q_ti (y := nI 1) (by rw [qB_t ((by rcases (show P = 0 ∨ P = 1 ∨ P = 2 ∨ P = 3 by omega) with rfl | rfl | rfl | rfl <;> decide) : -1 ≤ nI P - 1 ∧ nI P - 1 ≤ nI 2)]) ?_
  refine q_eq0 (tgt := 64) hx hb (by decide) dX7_addAlert_20 (by decide) (fun t3 => absurd t3 (by decide)) (fun t3 => ?_)
  refine lv_iload hx hb dX7_addAlert_23 (lv_at hl 4 rfl) ?_
  refine q_v (va_runS (As := [.int (nI w0)]) (rest := []) ⟨hx, hb, hml, hown, hts⟩ (m_isWord l (nI w0)) (va_cwS 1 hts gX7_addAlert_X7_isWord rfl rfl rfl (by decide +kernel) ⟨Nat.le_of_ble_eq_true rfl, Nat.le_of_ble_eq_true rfl⟩) ⟨qU.blind, qU.pre⟩ rfl rfl hl.1 rfl (lv_room (Nat.le_of_ble_eq_true rfl)) dX7_addAlert_25 ⟨Nat.le_of_ble_eq_true rfl, Nat.le_add_right_of_le (Nat.le_add_right_of_le (Nat.le_of_ble_eq_true rfl))⟩) hS (fun _ h => h.elim) (fun locs hS => ?_)
  refine q_ti (y := nI 1) (by rw [qB_t (⟨nI_le (Nat.zero_le _) (by omega), nI_le (by omega) (by decide)⟩ : nI 0 ≤ nI w0 ∧ nI w0 ≤ nI 99)]) ?_
  refine q_eq0 (tgt := 64) hx hb (by decide) dX7_addAlert_28 (by decide) (fun t4 => absurd t4 (by decide)) (fun t4 => ?_)
  refine lv_iload hx hb dX7_addAlert_31 (lv_at hl 5 rfl) ?_
  refine lv_iconst (v := nI 1) hx hb dX7_addAlert_33 (by decide) ?_
  refine lv_bipush (v := nI 9) hx hb dX7_addAlert_34 (by decide) ?_
  refine q_v (va_runS (As := [.int (nI g0), .int (nI 1), .int (nI 9)]) (rest := []) ⟨hx, hb, hml, hown, hts⟩ (m_isWithin l (nI g0) (nI 1) (nI 9)) (va_cwS 3 hts gX7_addAlert_X7_isWithin rfl rfl rfl (by decide +kernel) ⟨Nat.le_of_ble_eq_true rfl, Nat.le_of_ble_eq_true rfl⟩) ⟨qU.blind, qU.pre⟩ rfl rfl hl.1 rfl (lv_room (Nat.le_of_ble_eq_true rfl)) dX7_addAlert_36 ⟨Nat.le_of_ble_eq_true rfl, Nat.le_add_right_of_le (Nat.le_add_right_of_le (Nat.le_of_ble_eq_true rfl))⟩) hS (fun _ h => h.elim) (fun locs hS => ?_)
  refine q_ti (y := nI 1) (by rw [qB_t (⟨nI_le (by omega) (by omega), nI_le (by omega) (by decide)⟩ : nI 1 ≤ nI g0 ∧ nI g0 ≤ nI 9)]) ?_
  refine q_eq0 (tgt := 64) hx hb (by decide) dX7_addAlert_39 (by decide) (fun t5 => absurd t5 (by decide)) (fun t5 => ?_)
  refine lv_iload hx hb dX7_addAlert_42 (lv_at hl 6 rfl) ?_
  refine lv_iconst (v := nI 1) hx hb dX7_addAlert_44 (by decide) ?_
  refine lv_bipush (v := nI 50) hx hb dX7_addAlert_45 (by decide) ?_
  refine q_v (va_runS (As := [.int (nI n0), .int (nI 1), .int (nI 50)]) (rest := []) ⟨hx, hb, hml, hown, hts⟩ (m_isWithin l (nI n0) (nI 1) (nI 50)) (va_cwS 3 hts gX7_addAlert_X7_isWithin rfl rfl rfl (by decide +kernel) ⟨Nat.le_of_ble_eq_true rfl, Nat.le_of_ble_eq_true rfl⟩) ⟨qU.blind, qU.pre⟩ rfl rfl hl.1 rfl (lv_room (Nat.le_of_ble_eq_true rfl)) dX7_addAlert_47 ⟨Nat.le_of_ble_eq_true rfl, Nat.le_add_right_of_le (Nat.le_add_right_of_le (Nat.le_of_ble_eq_true rfl))⟩) hS (fun _ h => h.elim) (fun locs hS => ?_)
  refine q_ti (y := nI 1) (by rw [qB_t (⟨nI_le (by omega) (by omega), nI_le (by omega) (by decide)⟩ : nI 1 ≤ nI n0 ∧ nI n0 ≤ nI 50)]) ?_
  refine q_eq0 (tgt := 64) hx hb (by decide) dX7_addAlert_50 (by decide) (fun t6 => absurd t6 (by decide)) (fun t6 => ?_)
  refine lv_iload hx hb dX7_addAlert_53 (lv_at hl 7 rfl) ?_
  refine lv_iconst (v := nI 0) hx hb dX7_addAlert_55 (by decide) ?_
  refine lv_bipush (v := nI 20) hx hb dX7_addAlert_56 (by decide) ?_
  refine q_v (va_runS (As := [.int (nI h0), .int (nI 0), .int (nI 20)]) (rest := []) ⟨hx, hb, hml, hown, hts⟩ (m_isWithin l (nI h0) (nI 0) (nI 20)) (va_cwS 3 hts gX7_addAlert_X7_isWithin rfl rfl rfl (by decide +kernel) ⟨Nat.le_of_ble_eq_true rfl, Nat.le_of_ble_eq_true rfl⟩) ⟨qU.blind, qU.pre⟩ rfl rfl hl.1 rfl (lv_room (Nat.le_of_ble_eq_true rfl)) dX7_addAlert_58 ⟨Nat.le_of_ble_eq_true rfl, Nat.le_add_right_of_le (Nat.le_add_right_of_le (Nat.le_of_ble_eq_true rfl))⟩) hS (fun _ h => h.elim) (fun locs hS => ?_)
  refine q_ti (y := nI 1) (by rw [qB_t (⟨nI_le (by omega) (by omega), nI_le (by omega) (by decide)⟩ : nI 0 ≤ nI h0 ∧ nI h0 ≤ nI 20)]) ?_
  refine q_ne0 (tgt := 74) hx hb (by decide) dX7_addAlert_61 (by decide) (fun t7 => ?_) (fun t7 => absurd t7 (by decide))
  refine lv_aload_n hx hb dX7_addAlert_74 rfl (lv_at hl 0 rfl) ?_
  refine q_get (C := RX7) (T := TX7) (N := 7) hx hb hts iRX7 hown hC.1 (hW.to qLV0) rfl 2 (by decide) (hts (.fieldLink RX7 19 "LogWeave" "alertList" "Ljava/util/ArrayList;") (List.mem_of_getElem? (i := 5) (by decide +kernel))) rfl (v := .ref (ad 1 2)) rfl dX7_addAlert_75 ?_
  refine q_v (va_runV (As := []) (rest := []) ⟨hx, hb, hml, hown, hts⟩ (m_size l G (ad 1 2) _ _ (nI (σ 0 2))) (cwV 0 hts gX7_addAlert_Jx4a65c_size_8abf5 rfl rfl rfl (by decide +kernel) ⟨Nat.le_of_ble_eq_true rfl, Nat.le_of_ble_eq_true rfl⟩) ⟨qO.blind, qrecv hC (hW.to (qLV1 (j := 2) (by decide))) rfl, qO.pre hC (hW.lob (by decide))⟩ rfl rfl hl.1 rfl (lv_room (Nat.le_of_ble_eq_true rfl)) dX7_addAlert_78 ⟨Nat.le_of_ble_eq_true rfl, Nat.le_add_right_of_le (Nat.le_add_right_of_le (Nat.le_of_ble_eq_true rfl))⟩) hS (fun _ h => h.elim) (fun locs hS => ?_)
  refine lv_bipush (v := nI 6) hx hb dX7_addAlert_81 (by decide) ?_
  refine q_lt (tgt := 96) hx hb (q31 (hB _ _)) (by decide) dX7_addAlert_83 (by decide) (fun g1 => ?_) (fun g1 => (by omega))
  refine lv_aload_n hx hb dX7_addAlert_96 rfl (lv_at hl 0 rfl) ?_
  refine q_get (C := RX7) (T := TX7) (N := 7) hx hb hts iRX7 hown hC.1 (hW.to qLV0) rfl 2 (by decide) (hts (.fieldLink RX7 19 "LogWeave" "alertList" "Ljava/util/ArrayList;") (List.mem_of_getElem? (i := 5) (by decide +kernel))) rfl (v := .ref (ad 1 2)) rfl dX7_addAlert_97 ?_
  refine q_v (va_runV (As := []) (rest := []) ⟨hx, hb, hml, hown, hts⟩ (m_size l G (ad 1 2) _ _ (nI (σ 0 2))) (cwV 0 hts gX7_addAlert_Jx4a65c_size_8abf5 rfl rfl rfl (by decide +kernel) ⟨Nat.le_of_ble_eq_true rfl, Nat.le_of_ble_eq_true rfl⟩) ⟨qO.blind, qrecv hC (hW.to (qLV1 (j := 2) (by decide))) rfl, qO.pre hC (hW.lob (by decide))⟩ rfl rfl hl.1 rfl (lv_room (Nat.le_of_ble_eq_true rfl)) dX7_addAlert_100 ⟨Nat.le_of_ble_eq_true rfl, Nat.le_add_right_of_le (Nat.le_add_right_of_le (Nat.le_of_ble_eq_true rfl))⟩) hS (fun _ h => h.elim) (fun locs hS => ?_)
  refine lv_istore (lv' := [(8, .int (nI (σ 0 2))), (0, .ref (ad 0 0)), (1, .int (nI s0)), (2, .int (nI r0)), (3, .int (nI P - 1)), (4, .int (nI w0)), (5, .int (nI g0)), (6, .int (nI n0)), (7, .int (nI h0))]) hx hb dX7_addAlert_103 hl (by decide) rfl (fun ls hl => ?_)
  refine q_new (own := RX7) (C := RX0) (T := TX0) (N := 9) (ci := 3) hx hb hts iRX0 tyX0 tyX0_ok hown (hts (.classLink RX7 195 RX0) (List.mem_of_getElem? (i := 6) (by decide +kernel))) (hts (.instantiable RX0 9) (List.mem_of_getElem? (i := 7) (by decide +kernel))) (hts (.initialized RX0) (List.mem_of_getElem? (i := 8) (by decide +kernel))) hC.1 hS rfl [.int (nI 0), .null, .int (nI 0), .int (nI 0), .int (nI 0), .int (nI 0), .int (nI 0), .int (nI 0), .null] (fun j hj => by match j, hj with | 0, _ => rfl | 1, _ => rfl | 2, _ => rfl | 3, _ => rfl | 4, _ => rfl | 5, _ => rfl | 6, _ => rfl | 7, _ => rfl | 8, _ => rfl) (by show 0 + 1 ≤ 6; omega) (by show 0 + 9 ≤ 22 + ms + m3; omega) dX7_addAlert_105 (fun H1 hat hzH1 hko hS => ?_)
  have n1 := q_nolive hW (Nat.le_refl _)
  have hW := q_kept1 hW hko
  have hvA := hat
  refine lv_dup hx hb dX7_addAlert_108 rfl ?_
  refine lv_iload hx hb dX7_addAlert_109 (lv_at hl 0 rfl) ?_
  refine q_new (own := RX7) (C := RX1) (T := TX1) (N := 4) (ci := 4) hx hb hts iRX1 tyX1 tyX1_ok hown (hts (.classLink RX7 164 RX1) (List.mem_of_getElem? (i := 9) (by decide +kernel))) (hts (.instantiable RX1 4) (List.mem_of_getElem? (i := 10) (by decide +kernel))) (hts (.initialized RX1) (List.mem_of_getElem? (i := 11) (by decide +kernel))) hC.1 hS rfl [.int (nI 0), .int (nI 0), .int (nI 0), .int (nI 0)] (fun j hj => by match j, hj with | 0, _ => rfl | 1, _ => rfl | 2, _ => rfl | 3, _ => rfl) (by show 0 + 1 + 1 ≤ 6; omega) (by show 0 + 9 + 4 ≤ 22 + ms + m3; omega) dX7_addAlert_111 (fun H2 hat hzH2 hko hS => ?_)
  have n2 := q_nolive hW (Nat.le_refl _)
  have hW := q_kept1 hW hko
  have hvA := hvA.kept (hko _ hvA.lt)
  refine lv_dup hx hb dX7_addAlert_114 rfl ?_
  refine lv_iload_n hx hb dX7_addAlert_115 rfl (lv_at hl 2 rfl) ?_
  refine lv_iload_n hx hb dX7_addAlert_116 rfl (lv_at hl 3 rfl) ?_
  refine lv_iload_n hx hb dX7_addAlert_117 rfl (lv_at hl 4 rfl) ?_
  refine lv_iload hx hb dX7_addAlert_118 (lv_at hl 5 rfl) ?_
  refine q_wn (va_runIN (As := [.int (nI s0), .int (nI r0), .int (nI P - 1), .int (nI w0)]) (rest := [.ref (H1.size), .int (nI (σ 0 2)), .ref (s.heap.size), .ref (s.heap.size)]) ⟨hx, hb, hml, hown, hts⟩ (m_initFilter l G (fun x => x = H1.size) H2.size H1.size (nI s0) (nI r0) (nI P - 1) (nI w0)) ⟨va_cnB 4 hts gX7_addAlert_X1_init_n166 rfl rfl rfl (qm_RX7_166 hC) (hts (.initialized RX1) (List.mem_of_getElem? (i := 11) (by decide +kernel))) (by decide +kernel) ⟨Nat.le_of_ble_eq_true rfl, Nat.le_of_ble_eq_true rfl⟩, rfl, (hts (.instanceMethod yX1_init) (List.mem_of_getElem? (i := 33) (by decide +kernel)))⟩ ⟨qK.blind, qK.pre hC hat rfl rfl⟩ rfl rfl hl.1 rfl (lv_room (Nat.le_of_ble_eq_true rfl)) dX7_addAlert_120 ⟨Nat.le_of_ble_eq_true rfl, Nat.le_add_right_of_le (Nat.le_add_right_of_le (Nat.le_of_ble_eq_true rfl))⟩) hS (fun x hx => by cases hx; exact hA _ (by omega)) (fun x hx => by cases hx; exact hA _ (by omega)) (fun H3 locs hvF hz3 hk hS => ?_)
  have hW := q_kept2 hW n2 hk
  have hvA := hvA.kept (hk _ hvA.lt (by omega))
  refine lv_iload hx hb dX7_addAlert_123 (lv_at hl 6 rfl) ?_
  refine lv_iload hx hb dX7_addAlert_125 (lv_at hl 7 rfl) ?_
  refine lv_iload hx hb dX7_addAlert_127 (lv_at hl 8 rfl) ?_
  refine q_wn (va_runIN (As := [.int (nI (σ 0 2)), .ref (H1.size), .int (nI g0), .int (nI n0), .int (nI h0)]) (rest := [.ref (s.heap.size)]) ⟨hx, hb, hml, hown, hts⟩ (m_initAlert l G (fun x => x = s.heap.size) H3.size s.heap.size (nI (σ 0 2)) H1.size (nI g0) (nI n0) (nI h0)) ⟨va_cnB 5 hts gX7_addAlert_X0_init_n197 rfl rfl rfl (qm_RX7_197 hC) (hts (.initialized RX0) (List.mem_of_getElem? (i := 8) (by decide +kernel))) (by decide +kernel) ⟨Nat.le_of_ble_eq_true rfl, Nat.le_of_ble_eq_true rfl⟩, rfl, (hts (.instanceMethod yX0_init) (List.mem_of_getElem? (i := 42) (by decide +kernel)))⟩ ⟨qK.blind, qK.pre hC hvA rfl rfl⟩ rfl rfl hl.1 rfl (lv_room (Nat.le_of_ble_eq_true rfl)) dX7_addAlert_129 ⟨Nat.le_of_ble_eq_true rfl, Nat.le_add_right_of_le (Nat.le_add_right_of_le (Nat.le_of_ble_eq_true rfl))⟩) hS (fun x hx => by cases hx; exact hA _ (by omega)) (fun x hx => by cases hx; exact hA _ (by omega)) (fun H4 locs hvA hz4 hk hS => ?_)
  have hW := q_kept2 hW n1 hk
  have hvF := hvF.kept (hk _ hvF.lt (by omega))
  have hW9 : qLW G es A σ (qup (qup ad 8 (σ 0 2) s.heap.size) 9 (σ 0 2) H1.size) H4 := hW.pend hF (J := 2) (by decide) _ _
  have n19 : ¬ qlive (qLV G es σ (qup (qup ad 8 (σ 0 2) s.heap.size) 9 (σ 0 2) H1.size)) (qup (qup ad 8 (σ 0 2) s.heap.size) 9 (σ 0 2) H1.size) s.heap.size := qlive_pend hF (J := 2) (by decide) n1
  have n29 : ¬ qlive (qLV G es σ (qup (qup ad 8 (σ 0 2) s.heap.size) 9 (σ 0 2) H1.size)) (qup (qup ad 8 (σ 0 2) s.heap.size) 9 (σ 0 2) H1.size) H1.size := qlive_pend hF (J := 2) (by decide) n2
  refine lv_astore (lv' := [(9, .ref (s.heap.size)), (8, .int (nI (σ 0 2))), (0, .ref (ad 0 0)), (1, .int (nI s0)), (2, .int (nI r0)), (3, .int (nI P - 1)), (4, .int (nI w0)), (5, .int (nI g0)), (6, .int (nI n0)), (7, .int (nI h0))]) hx hb dX7_addAlert_132 hl (by decide) rfl (fun ls hl => ?_)
  refine lv_aload_n hx hb dX7_addAlert_134 rfl (lv_at hl 2 rfl) ?_
  refine q_get (C := RX7) (T := TX7) (N := 7) hx hb hts iRX7 hown hC.1 (hW.to qLV0) rfl 2 (by decide) (hts (.fieldLink RX7 19 "LogWeave" "alertList" "Ljava/util/ArrayList;") (List.mem_of_getElem? (i := 5) (by decide +kernel))) rfl (v := .ref (ad 1 2)) rfl dX7_addAlert_135 ?_
  refine lv_aload hx hb dX7_addAlert_138 (lv_at hl 0 rfl) ?_
  refine q_ad (va_runV (As := [.ref (s.heap.size)]) (rest := []) ⟨hx, hb, hml, hown, hts⟩ (m_add l G es A σ (qup (qup ad 8 (σ 0 2) s.heap.size) 9 (σ 0 2) H1.size) 2 (hF.cap 2) (hF.c 2) (by decide) s.heap.size [.int (nI (σ 0 2)), .ref H1.size, .int (nI g0), .int (nI n0), .int (nI h0), .int (nI 113), .int (nI 0), .int (nI 0), .null] ms hms) (cwV 1 hts gX7_addAlert_Jx4a65c_add_9ea2d rfl rfl rfl (by decide +kernel) ⟨Nat.le_of_ble_eq_true rfl, Nat.le_of_ble_eq_true rfl⟩) ⟨qWv.blind, qrecv hC (hW9.to (qLV1 (j := 2) (by decide))) rfl, qWv.pre hC hW9 hvA n19 hZ hS (fun _ h => h) (fun q h => hA q (Nat.le_trans hS.1 h))⟩ rfl rfl hl.1 rfl (lv_room (Nat.le_of_ble_eq_true rfl)) dX7_addAlert_140 ⟨by show 0 + 1 + 1 + 0 + 0 + 1 ≤ 6; omega, by show 0 + 9 + 4 + 0 + 0 + ms ≤ 22 + ms + m3; omega⟩) hS (fun _ h => h) (fun _ h => h) (fun H7 locs hG hz7 hS => ?_)
  have e3 : qLV G es (qfAl σ s0 r0 P w0 g0 n0 h0) (qup (qup ad 8 (σ 0 2) s.heap.size) 9 (σ 0 2) H1.size) 8 (σ 0 2) = some (.inr (3, [.int (nI (σ 0 2)), .ref H1.size, .int (nI g0), .int (nI n0), .int (nI h0), .int (nI 113), .int (nI 0), .int (nI 0), .null])) := by rw [qLV8 (by rw [qfAl_02]; omega), show qfAl σ s0 r0 P w0 g0 n0 h0 128 (σ 0 2) = g0 from qad_in rfl (by decide), show qfAl σ s0 r0 P w0 g0 n0 h0 129 (σ 0 2) = n0 from qad_in rfl (by decide), show qfAl σ s0 r0 P w0 g0 n0 h0 130 (σ 0 2) = h0 from qad_in rfl (by decide), show qfAl σ s0 r0 P w0 g0 n0 h0 131 (σ 0 2) = 113 from qad_in rfl (by decide), show qfAl σ s0 r0 P w0 g0 n0 h0 132 (σ 0 2) = 0 from qad_in rfl (by decide), show qfAl σ s0 r0 P w0 g0 n0 h0 133 (σ 0 2) = 0 from qad_in rfl (by decide), show qfAl σ s0 r0 P w0 g0 n0 h0 134 (σ 0 2) = 0 from qad_in rfl (by decide), qup_s, if_pos rfl]
  have e4 : qLV G es (qfAl σ s0 r0 P w0 g0 n0 h0) (qup (qup ad 8 (σ 0 2) s.heap.size) 9 (σ 0 2) H1.size) 9 (σ 0 2) = some (.inr (4, [.int (nI s0), .int (nI r0), .int (nI P - 1), .int (nI w0)])) := by rw [qLV9 (by rw [qfAl_02]; omega), show qfAl σ s0 r0 P w0 g0 n0 h0 144 (σ 0 2) = s0 from qad_in rfl (by decide), show qfAl σ s0 r0 P w0 g0 n0 h0 145 (σ 0 2) = r0 from qad_in rfl (by decide), show qfAl σ s0 r0 P w0 g0 n0 h0 146 (σ 0 2) = P from qad_in rfl (by decide), show qfAl σ s0 r0 P w0 g0 n0 h0 147 (σ 0 2) = w0 from qad_in rfl (by decide)]
  obtain ⟨q9, hWn, -⟩ := hW9.grow (σ' := (qfAl σ s0 r0 P w0 g0 n0 h0)) (J := 2) (by decide) (hF.c 2) hG (fun q h => hA q (Nat.le_trans (by omega) h)) hvA hvF n19 n29 (by omega) (hA _ (by omega)) (hA _ (by omega)) ((qup_k (by decide)).trans (qup_s _ _ _ _)) (qup_s _ _ _ _) qfAl_02 (qad_16 qfAl_ha) (qad_32 qfAl_ha) (fun r j g1 g2 _ => qad_r qfAl_ha g1 g2) e3 e4
  have hX : ∃ ad2 : QSt, qAE σ ad ad2 ∧ ad2 8 (σ 0 2) = s.heap.size ∧ qLW G es A (qfAl σ s0 r0 P w0 g0 n0 h0) ad2 H7 := ⟨_, qAE.pend (J := 2), (qup_k (by decide)).trans ((qup_k (by decide)).trans (qup_s _ _ _ _)), hWn⟩
  refine lv_pop hx hb dX7_addAlert_143 rfl ?_
  obtain ⟨ad, hAE, h8c, hW⟩ := hX
  rw [← hAE 0 0 (by decide) (by omega), ← h8c] at hl
  have hF1 : qWF (qfAl σ s0 r0 P w0 g0 n0 h0) := qfAl_wf hF hn2 h162 hP ⟨hs0, hr0, hw0, by omega, by omega, hh0⟩
  have ec : (qfAl σ s0 r0 P w0 g0 n0 h0) 132 (σ 0 2) = 0 := qad_in rfl (by decide)
  have hCA := qfCa_ok hF1 (a := σ 0 2) (by rw [ec]; decide) (fun l0 => by rw [qfAl_r (by omega) (by omega)]; exact hg l0)
  refine lv_iconst (v := nI 0) hx hb dX7_addAlert_144 (by decide) ?_
  refine lv_istore (lv' := [(10, .int (nI 0)), (9, .ref (ad 8 (σ 0 2))), (8, .int (nI (σ 0 2))), (0, .ref (ad 0 0)), (1, .int (nI s0)), (2, .int (nI r0)), (3, .int (nI P - 1)), (4, .int (nI w0)), (5, .int (nI g0)), (6, .int (nI n0)), (7, .int (nI h0))]) hx hb dX7_addAlert_145 hl (by decide) rfl (fun ls hl => ?_)
  refine q_up (σ 0 0) (fun k H locs ls => qLW G es A (qfCa (qfAl σ s0 r0 P w0 g0 n0 h0) (σ 0 2) k) ad H ∧ va_S A s.heap H locs ∧ lv_has ls 11 [(0, .ref (ad 0 0)), (8, .int (nI (σ 0 2))), (9, .ref (ad 8 (σ 0 2))), (10, .int (nI k))]) ?_ ?_ (i0 := 0) (Nat.zero_le _) ⟨hW, hS, lv_sub hl [3, 2, 1, 0] rfl⟩
  · rintro H locs ls ⟨hW, hS, hl⟩
    obtain ⟨hF9, hR, hG9, hC9⟩ := hCA (σ 0 0) hn.1
    have h009 : (qfCa (qfAl σ s0 r0 P w0 g0 n0 h0) (σ 0 2) (σ 0 0)) 0 0 = σ 0 0 := (hR 0 0 (by decide) (by decide)).trans (qfAl_r (by omega) (by omega))
    have h029 : (qfCa (qfAl σ s0 r0 P w0 g0 n0 h0) (σ 0 2) (σ 0 0)) 0 2 = σ 0 2 + 1 := (hR 0 2 (by decide) (by decide)).trans qfAl_02
    refine lv_iload hx hb dX7_addAlert_147 (lv_at hl 3 rfl) ?_
    refine lv_aload_n hx hb dX7_addAlert_149 rfl (lv_at hl 0 rfl) ?_
    refine q_get (C := RX7) (T := TX7) (N := 7) hx hb hts iRX7 hown hC.1 (hW.to qLV0) rfl 0 (by decide) (hts (.fieldLink RX7 10 "LogWeave" "lineList" "Ljava/util/ArrayList;") (List.mem_of_getElem? (i := 12) (by decide +kernel))) rfl (v := .ref (ad 1 0)) rfl dX7_addAlert_150 ?_
    refine q_v (va_runV (As := []) (rest := [.int (nI (σ 0 0))]) ⟨hx, hb, hml, hown, hts⟩ (m_size l G (ad 1 0) _ _ (nI ((qfCa (qfAl σ s0 r0 P w0 g0 n0 h0) (σ 0 2) (σ 0 0)) 0 0))) (cwV 0 hts gX7_addAlert_Jx4a65c_size_8abf5 rfl rfl rfl (by decide +kernel) ⟨Nat.le_of_ble_eq_true rfl, Nat.le_of_ble_eq_true rfl⟩) ⟨qO.blind, qrecv hC (hW.to (qLV1 (j := 0) (by decide))) rfl, qO.pre hC (hW.lob (by decide))⟩ rfl rfl hl.1 rfl (lv_room (Nat.le_of_ble_eq_true rfl)) dX7_addAlert_153 ⟨by show 0 + 1 + 1 + 0 + 0 + 1 ≤ 6; omega, by show 0 + 9 + 4 + 0 + 0 + ms ≤ 22 + ms + m3; omega⟩) hS (fun _ h => h.elim) (fun locs hS => ?_)
    refine q_ti (y := nI (σ 0 0)) (by rw [h009]) ?_
    refine q_ge (tgt := 183) hx hb (q31 (hB _ _)) (q31 (hB _ _)) dX7_addAlert_156 (by decide) (fun g2 => ?_) (fun g2 => (by omega))
    refine lv_aload_n hx hb dX7_addAlert_183 rfl (lv_at hl 0 rfl) ?_
    refine lv_aload hx hb dX7_addAlert_184 (lv_at hl 2 rfl) ?_
    have hc9 : σ 0 2 < (qfCa (qfAl σ s0 r0 P w0 g0 n0 h0) (σ 0 2) (σ 0 0)) 0 2 := by rw [h029]; omega
    have e128 : (qfCa (qfAl σ s0 r0 P w0 g0 n0 h0) (σ 0 2) (σ 0 0)) 128 (σ 0 2) = g0 := (hR 128 _ (by decide) (by decide)).trans (qad_in rfl (by decide))
    have e131 : (qfCa (qfAl σ s0 r0 P w0 g0 n0 h0) (σ 0 2) (σ 0 0)) 131 (σ 0 2) = 113 := (hR 131 _ (by decide) (by decide)).trans (qad_in rfl (by decide))
    have e134 : (qfCa (qfAl σ s0 r0 P w0 g0 n0 h0) (σ 0 2) (σ 0 0)) 134 (σ 0 2) = 0 := (hR 134 _ (by decide) (by decide)).trans (qad_in rfl (by decide))
    have hlo : ∀ r j, r < 128 → r ≠ 70 → ¬ ((r = 0 ∨ r = 16 ∨ r = 32) ∧ j = 2) → (qfCa (qfAl σ s0 r0 P w0 g0 n0 h0) (σ 0 2) (σ 0 0)) r j = σ r j := fun r j g1 g2 g3 => (hR r j (by omega) g2).trans (qfAl_r (by omega) g3)
    have hm9 : ∀ i j, i ≤ j → j < (qfCa (qfAl σ s0 r0 P w0 g0 n0 h0) (σ 0 2) (σ 0 0)) 0 0 → (qfCa (qfAl σ s0 r0 P w0 g0 n0 h0) (σ 0 2) (σ 0 0)) 67 i ≤ (qfCa (qfAl σ s0 r0 P w0 g0 n0 h0) (σ 0 2) (σ 0 0)) 67 j := fun i j g1 g2 => by rw [h009] at g2; rw [hlo 67 i (by omega) (by omega) (by omega), hlo 67 j (by omega) (by omega) (by omega)]; exact hm i j g1 g2
    have hg9 : ∀ l0, (qfCa (qfAl σ s0 r0 P w0 g0 n0 h0) (σ 0 2) (σ 0 0)) 70 l0 ≤ 1000000 := fun l0 => by have k1 := hG9 l0; rw [qfAl_r (by omega) (by omega)] at k1; have k2 := hg l0; split at k1 <;> omega
    have e03 : (qfCa (qfAl σ s0 r0 P w0 g0 n0 h0) (σ 0 2) (σ 0 0)) 0 3 = σ 0 3 := hlo 0 3 (by omega) (by omega) (by omega)
    have e163 : (qfCa (qfAl σ s0 r0 P w0 g0 n0 h0) (σ 0 2) (σ 0 0)) 16 3 = σ 16 3 := hlo 16 3 (by omega) (by omega) (by omega)
    have e323 : (qfCa (qfAl σ s0 r0 P w0 g0 n0 h0) (σ 0 2) (σ 0 0)) 32 3 = σ 32 3 := hlo 32 3 (by omega) (by omega) (by omega)
    have hct : ∀ J, σ 0 J ≤ (qfCa (qfAl σ s0 r0 P w0 g0 n0 h0) (σ 0 2) (σ 0 0)) 0 J := fun J => by by_cases q : J = 2; rw [q, h029]; omega; rw [hlo 0 J (by omega) (by omega) (by omega)]; exact Nat.le_refl _
    by_cases hgo : (qfCa (qfAl σ s0 r0 P w0 g0 n0 h0) (σ 0 2) (σ 0 0)) 128 (σ 0 2) ≤ (qfCa (qfAl σ s0 r0 P w0 g0 n0 h0) (σ 0 2) (σ 0 0)) 132 (σ 0 2)
    · skip
      refine q_wn (va_runV (As := [.ref (ad 8 (σ 0 2))]) (rest := []) ⟨hx, hb, hml, hown, hts⟩ (m_lookAtAlertF l G es A (qfCa (qfAl σ s0 r0 P w0 g0 n0 h0) (σ 0 2) (σ 0 0)) ad hF9 (σ 0 2) hc9 hgo (Or.inl e131) (by rw [e03]; exact hn3) (by rw [e163]; exact h16) hm9 hg9 m3 (by rw [e03, e323]; exact hm3)) (cwV 1 hts gX7_addAlert_X7_lookAtAlert rfl rfl rfl (by decide +kernel) ⟨Nat.le_of_ble_eq_true rfl, Nat.le_of_ble_eq_true rfl⟩) ⟨qW.blind, qrecv hC (hW.to qLV0) rfl, qW.pre hC hW hZ hS (fun _ h => h) (fun q h => hA q (Nat.le_trans hS.1 h))⟩ rfl rfl hl.1 rfl (lv_room (Nat.le_of_ble_eq_true rfl)) dX7_addAlert_186 ⟨by show 0 + 1 + 1 + 0 + 0 + 1 + 3 ≤ 6; omega, by show 0 + 9 + 4 + 0 + 0 + ms + (9 + m3) ≤ 22 + ms + m3; omega⟩) hS (fun _ h => h) (fun _ h => h) (fun H locs hW hz hk hS => ?_)
      obtain ⟨ad3, hAE3, hW⟩ := hW
      refine lv_iload hx hb dX7_addAlert_189 (lv_at hl 1 rfl) ?_
      refine W.widen (k := 6) (n := 22 + ms + m3) (by omega) (by omega) ?_
      exact W.iret hx hb hr (fun t ht _ => ⟨rfl, by rw [ht]; exact ⟨ad3, hAE.trans hAE3 hct, by unfold qfAa; rw [if_pos (by rw [e128] at hgo; exact hgo)]; exact hW⟩, hS.F ht⟩) hS.2.2 dX7_addAlert_191
    · skip
      refine q_wn (va_runV (As := [.ref (ad 8 (σ 0 2))]) (rest := []) ⟨hx, hb, hml, hown, hts⟩ (m_lookAtAlertN l G es A (qfCa (qfAl σ s0 r0 P w0 g0 n0 h0) (σ 0 2) (σ 0 0)) ad hF9 (σ 0 2) hc9 (fun h => absurd h hgo) (fun h => absurd e134 h) hm9 (fun h => absurd e134 h) hg9) (cwV 1 hts gX7_addAlert_X7_lookAtAlert rfl rfl rfl (by decide +kernel) ⟨Nat.le_of_ble_eq_true rfl, Nat.le_of_ble_eq_true rfl⟩) ⟨qW.blind, qrecv hC (hW.to qLV0) rfl, qW.pre hC hW hZ hS (fun _ h => h) (fun q h => hA q (Nat.le_trans hS.1 h))⟩ rfl rfl hl.1 rfl (lv_room (Nat.le_of_ble_eq_true rfl)) dX7_addAlert_186 ⟨by show 0 + 1 + 1 + 0 + 0 + 1 + 0 ≤ 6; omega, by show 0 + 9 + 4 + 0 + 0 + ms + 0 ≤ 22 + ms + m3; omega⟩) hS (fun _ h => h) (fun _ h => h) (fun H locs hW hz hk hS => ?_)
      refine lv_iload hx hb dX7_addAlert_189 (lv_at hl 1 rfl) ?_
      refine W.widen (k := 6) (n := 22 + ms + m3) (by omega) (by omega) ?_
      exact W.iret hx hb hr (fun t ht _ => ⟨rfl, by rw [ht]; exact ⟨ad, hAE, by unfold qfAa; rw [if_neg (by rw [e128] at hgo; exact hgo)]; unfold qfLk at hW; rw [if_neg hgo, if_neg (by rw [e131]; decide)] at hW; exact hW⟩, hS.F ht⟩) hS.2.2 dX7_addAlert_191
  · rintro k H locs ls hi ⟨hW, hS, hl⟩ ih
    obtain ⟨hF9, hR, hG9, hC9⟩ := hCA k (by omega)
    have h009 : (qfCa (qfAl σ s0 r0 P w0 g0 n0 h0) (σ 0 2) k) 0 0 = σ 0 0 := (hR 0 0 (by decide) (by decide)).trans (qfAl_r (by omega) (by omega))
    have h029 : (qfCa (qfAl σ s0 r0 P w0 g0 n0 h0) (σ 0 2) k) 0 2 = σ 0 2 + 1 := (hR 0 2 (by decide) (by decide)).trans qfAl_02
    refine lv_iload hx hb dX7_addAlert_147 (lv_at hl 3 rfl) ?_
    refine lv_aload_n hx hb dX7_addAlert_149 rfl (lv_at hl 0 rfl) ?_
    refine q_get (C := RX7) (T := TX7) (N := 7) hx hb hts iRX7 hown hC.1 (hW.to qLV0) rfl 0 (by decide) (hts (.fieldLink RX7 10 "LogWeave" "lineList" "Ljava/util/ArrayList;") (List.mem_of_getElem? (i := 12) (by decide +kernel))) rfl (v := .ref (ad 1 0)) rfl dX7_addAlert_150 ?_
    refine q_v (va_runV (As := []) (rest := [.int (nI k)]) ⟨hx, hb, hml, hown, hts⟩ (m_size l G (ad 1 0) _ _ (nI ((qfCa (qfAl σ s0 r0 P w0 g0 n0 h0) (σ 0 2) k) 0 0))) (cwV 0 hts gX7_addAlert_Jx4a65c_size_8abf5 rfl rfl rfl (by decide +kernel) ⟨Nat.le_of_ble_eq_true rfl, Nat.le_of_ble_eq_true rfl⟩) ⟨qO.blind, qrecv hC (hW.to (qLV1 (j := 0) (by decide))) rfl, qO.pre hC (hW.lob (by decide))⟩ rfl rfl hl.1 rfl (lv_room (Nat.le_of_ble_eq_true rfl)) dX7_addAlert_153 ⟨by show 0 + 1 + 1 + 0 + 0 + 1 ≤ 6; omega, by show 0 + 9 + 4 + 0 + 0 + ms ≤ 22 + ms + m3; omega⟩) hS (fun _ h => h.elim) (fun locs hS => ?_)
    refine q_ti (y := nI (σ 0 0)) (by rw [h009]) ?_
    refine q_ge (tgt := 183) hx hb (by omega) (q31 (hB _ _)) dX7_addAlert_156 (by decide) (fun g3 => (by omega)) (fun g3 => ?_)
    have hi9 : k < (qfCa (qfAl σ s0 r0 P w0 g0 n0 h0) (σ 0 2) k) 0 0 := by rw [h009]; exact hi
    have hc9 : σ 0 2 < (qfCa (qfAl σ s0 r0 P w0 g0 n0 h0) (σ 0 2) k) 0 2 := by rw [h029]; omega
    refine lv_aload_n hx hb dX7_addAlert_159 rfl (lv_at hl 0 rfl) ?_
    refine lv_aload hx hb dX7_addAlert_160 (lv_at hl 2 rfl) ?_
    refine lv_aload_n hx hb dX7_addAlert_162 rfl (lv_at hl 0 rfl) ?_
    refine q_get (C := RX7) (T := TX7) (N := 7) hx hb hts iRX7 hown hC.1 (hW.to qLV0) rfl 0 (by decide) (hts (.fieldLink RX7 10 "LogWeave" "lineList" "Ljava/util/ArrayList;") (List.mem_of_getElem? (i := 12) (by decide +kernel))) rfl (v := .ref (ad 1 0)) rfl dX7_addAlert_163 ?_
    refine lv_iload hx hb dX7_addAlert_166 (lv_at hl 3 rfl) ?_
    refine q_v (va_runV (As := [.int (nI k)]) (rest := [.ref (ad 8 (σ 0 2)), .ref (ad 0 0)]) ⟨hx, hb, hml, hown, hts⟩ (m_get l G (ad 1 0) (ad 2 0) ((qfCa (qfAl σ s0 r0 P w0 g0 n0 h0) (σ 0 2) k) 32 0) ((qfCa (qfAl σ s0 r0 P w0 g0 n0 h0) (σ 0 2) k) 0 0) (fun i => if i < (qfCa (qfAl σ s0 r0 P w0 g0 n0 h0) (σ 0 2) k) 0 0 then some (ad (4 + 2 * 0) i) else none) (.int (nI ((qfCa (qfAl σ s0 r0 P w0 g0 n0 h0) (σ 0 2) k) 16 0))) k (ad 4 k) hi9 (hF9.c 0) (hF9.1 _ _) (if_pos hi9)) (cwV 1 hts gX7_addAlert_Jx4a65c_get_915e3 rfl rfl rfl (by decide +kernel) ⟨Nat.le_of_ble_eq_true rfl, Nat.le_of_ble_eq_true rfl⟩) ⟨qO.blind, qrecv hC (hW.to (qLV1 (j := 0) (by decide))) rfl, qO.pre hC (hW.list hF9 (J := 0) (by decide) hi9)⟩ rfl rfl hl.1 rfl (lv_room (Nat.le_of_ble_eq_true rfl)) dX7_addAlert_168 ⟨by show 0 + 1 + 1 + 0 + 0 + 1 ≤ 6; omega, by show 0 + 9 + 4 + 0 + 0 + ms ≤ 22 + ms + m3; omega⟩) hS (fun _ h => h.elim) (fun locs hS => ?_)
    refine va_castS hx hb hown (hts (.classLink RX7 74 "LogWeave$Line") (List.mem_of_getElem? (i := 13) (by decide +kernel))) (hC.1.1 6 _ rfl).2 (qrecv hC (hW.to (qLV4 hi9)) rfl) dX7_addAlert_171 ?_
    refine q_wn (va_runV (As := [.ref (ad 8 (σ 0 2)), .ref (ad 4 k)]) (rest := []) ⟨hx, hb, hml, hown, hts⟩ (m_countIfDue l G es A (qfCa (qfAl σ s0 r0 P w0 g0 n0 h0) (σ 0 2) k) ad hF9 (σ 0 2) hc9 k hi9) (cwV 2 hts gX7_addAlert_X7_countIfDue rfl rfl rfl (by decide +kernel) ⟨Nat.le_of_ble_eq_true rfl, Nat.le_of_ble_eq_true rfl⟩) ⟨qW.blind, qrecv hC (hW.to qLV0) rfl, qW.pre hC hW hZ hS (fun _ h => h) (fun q h => hA q (Nat.le_trans hS.1 h))⟩ rfl rfl hl.1 rfl (lv_room (Nat.le_of_ble_eq_true rfl)) dX7_addAlert_174 ⟨by show 0 + 1 + 1 + 0 + 0 + 1 ≤ 6; omega, by show 0 + 9 + 4 + 0 + 0 + ms ≤ 22 + ms + m3; omega⟩) hS (fun _ h => h) (fun _ h => h) (fun H locs hW hz hk hS => ?_)
    refine lv_iinc (v := nI (k + 1)) (lv' := [(10, .int (nI (k + 1))), (0, .ref (ad 0 0)), (8, .int (nI (σ 0 2))), (9, .ref (ad 8 (σ 0 2)))]) hx hb dX7_addAlert_177 hl (k := 3) rfl (nI_1 k) (by decide) rfl (fun ls hl => ?_)
    refine lv_goto (tgt := 147) hx hb dX7_addAlert_180 (by decide) ?_
    exact ih _ _ ls ⟨hW, hS, lv_sub hl [1, 2, 3, 0] rfl⟩
