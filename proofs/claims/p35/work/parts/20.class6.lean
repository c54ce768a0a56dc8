set_option maxHeartbeats 4000000 in
set_option maxRecDepth 100000 in
theorem m_answerRequests (l : Launch) (G : QG) (es : Nat) (A : Nat → Prop) (σ ad : QSt) (hF : qWF σ)  : Met l yX7_answerRequests wsX7_answerRequests ({ frames := 4, cells := 0, slots := 0, locals := 88 } : Room) (qW G es A σ ad [.ref (ad 0 0)]) (qWV (none) (qLW G es A (qfAr σ) ad) A) 0 0 A := by
  refine Met.ofW (cc := cX7_answerRequests) (maxL := 3) (ret := none) (by decide) rfl ?_
  intro p e s m args below meth c s₁ B hml hv
  obtain ⟨rfl, hC, hW, hZ, hA⟩ := hv
  have hx := B.exec
  have hb := B.bytes
  have hr := B.returns
  have hts := atoms_spec (ws := wsX7_answerRequests) B.pre
  have hown : s.vm.findClass RX7 = some m.cls := findClass_of_methodNamed B.named
  have hlocks := B.notSynchronized
  have hB := hF.1
  have hn := hF.n
  have hS : va_S A s.heap s.heap [] := va_S.rf
  have hl := lv_entry ([.ref (ad 0 0)]) (n := 3) (Nat.le_of_ble_eq_true rfl)
  rw [lg_entry_eq]
  generalize (lg_sl ([.ref (ad 0 0)]) ++ List.replicate (3 - (lg_sl ([.ref (ad 0 0)])).length) Slot.unset).toArray = ls at hl ⊢
  have hl : lv_has ls 3 [(0, .ref (ad 0 0))] := hl
  have iRX7 : ∀ w ∈ wsX70, w ∈ wsX7_answerRequests := by decide +kernel
  have iRX5 : ∀ w ∈ wsX50, w ∈ wsX7_answerRequests := by decide +kernel
  refine lv_iconst (v := nI 0) hx hb dX7_answerRequests_0 (by decide) ?_
  refine lv_istore_n (lv' := [(1, .int (nI 0)), (0, .ref (ad 0 0))]) hx hb dX7_answerRequests_1 rfl hl (by decide) rfl (fun ls hl => ?_)
  refine q_up (σ 0 4) (fun i H locs ls => qLW G es A (qfArS σ i) ad H ∧ va_S A s.heap H locs ∧ lv_has ls 3 [(0, .ref (ad 0 0)), (1, .int (nI i))]) ?_ ?_ (i0 := 0) (Nat.zero_le _) ⟨(by unfold qfArS; rw [qset_none (fun j => by omega), qset_none (fun j => by omega)]; exact hW), hS, lv_sub hl [1, 0] rfl⟩
  · rintro H locs ls ⟨hW, hS, hl⟩
    refine lv_iload_n hx hb dX7_answerRequests_2 rfl (lv_at hl 1 rfl) ?_
    refine lv_aload_n hx hb dX7_answerRequests_3 rfl (lv_at hl 0 rfl) ?_
    refine q_get (C := RX7) (T := TX7) (N := 7) hx hb hts iRX7 hown hC.1 (hW.to qLV0) rfl 4 (by decide) (hts (.fieldLink RX7 25 "LogWeave" "requestList" "Ljava/util/ArrayList;") (List.mem_of_getElem? (i := 1) (by decide +kernel))) rfl (v := .ref (ad 1 4)) rfl dX7_answerRequests_4 ?_
    refine q_v (va_runV (As := []) (rest := [.int (nI (σ 0 4))]) ⟨hx, hb, hml, hown, hts⟩ (m_size l G (ad 1 4) _ _ (nI ((qfArS σ (σ 0 4)) 0 4))) (cwV 0 hts gX7_answerRequests_Jx4a65c_size_8abf5 rfl rfl rfl (by decide +kernel) ⟨Nat.le_of_ble_eq_true rfl, Nat.le_of_ble_eq_true rfl⟩) ⟨qO.blind, qrecv hC (hW.to (qLV1 (j := 4) (by decide))) rfl, qO.pre hC (hW.lob (by decide))⟩ rfl rfl hl.1 rfl (lv_room (Nat.le_of_ble_eq_true rfl)) dX7_answerRequests_7 ⟨Nat.le_of_ble_eq_true rfl, Nat.le_of_ble_eq_true rfl⟩) hS (fun _ h => h.elim) (fun locs hS => ?_)
    refine q_ti (y := nI (σ 0 4)) rfl ?_
    refine q_ge (tgt := 66) hx hb (q31 (hB _ _)) (q31 (hB _ _)) dX7_answerRequests_10 (by decide) (fun g1 => ?_) (fun g1 => (by omega))
    exact W.vret hx hb hr (fun t ht _ => ⟨rfl, by rw [ht]; exact (by unfold qfAr; exact hW), hS.F ht⟩) hS.2.2 dX7_answerRequests_66
  · rintro i H locs ls hi ⟨hW, hS, hl⟩ ih
    have hF9 := qfArS_wf hF i
    refine lv_iload_n hx hb dX7_answerRequests_2 rfl (lv_at hl 1 rfl) ?_
    refine lv_aload_n hx hb dX7_answerRequests_3 rfl (lv_at hl 0 rfl) ?_
    refine q_get (C := RX7) (T := TX7) (N := 7) hx hb hts iRX7 hown hC.1 (hW.to qLV0) rfl 4 (by decide) (hts (.fieldLink RX7 25 "LogWeave" "requestList" "Ljava/util/ArrayList;") (List.mem_of_getElem? (i := 1) (by decide +kernel))) rfl (v := .ref (ad 1 4)) rfl dX7_answerRequests_4 ?_
    refine q_v (va_runV (As := []) (rest := [.int (nI i)]) ⟨hx, hb, hml, hown, hts⟩ (m_size l G (ad 1 4) _ _ (nI ((qfArS σ i) 0 4))) (cwV 0 hts gX7_answerRequests_Jx4a65c_size_8abf5 rfl rfl rfl (by decide +kernel) ⟨Nat.le_of_ble_eq_true rfl, Nat.le_of_ble_eq_true rfl⟩) ⟨qO.blind, qrecv hC (hW.to (qLV1 (j := 4) (by decide))) rfl, qO.pre hC (hW.lob (by decide))⟩ rfl rfl hl.1 rfl (lv_room (Nat.le_of_ble_eq_true rfl)) dX7_answerRequests_7 ⟨Nat.le_of_ble_eq_true rfl, Nat.le_of_ble_eq_true rfl⟩) hS (fun _ h => h.elim) (fun locs hS => ?_)
    refine q_ti (y := nI (σ 0 4)) rfl ?_
    refine q_ge (tgt := 66) hx hb (by omega) (q31 (hB _ _)) dX7_answerRequests_10 (by decide) (fun g2 => (by omega)) (fun g2 => ?_)
    refine lv_aload_n hx hb dX7_answerRequests_13 rfl (lv_at hl 0 rfl) ?_
    refine q_get (C := RX7) (T := TX7) (N := 7) hx hb hts iRX7 hown hC.1 (hW.to qLV0) rfl 4 (by decide) (hts (.fieldLink RX7 25 "LogWeave" "requestList" "Ljava/util/ArrayList;") (List.mem_of_getElem? (i := 1) (by decide +kernel))) rfl (v := .ref (ad 1 4)) rfl dX7_answerRequests_14 ?_
    refine lv_iload_n hx hb dX7_answerRequests_17 rfl (lv_at hl 1 rfl) ?_
    refine q_v (va_runV (As := [.int (nI i)]) (rest := []) ⟨hx, hb, hml, hown, hts⟩ (m_get l G (ad 1 4) (ad 2 4) ((qfArS σ i) 32 4) ((qfArS σ i) 0 4) (fun i => if i < (qfArS σ i) 0 4 then some (ad (4 + 2 * 4) i) else none) (.int (nI ((qfArS σ i) 16 4))) i (ad 12 i) hi (hF9.c 4) (hF9.1 _ _) (if_pos hi)) (cwV 1 hts gX7_answerRequests_Jx4a65c_get_915e3 rfl rfl rfl (by decide +kernel) ⟨Nat.le_of_ble_eq_true rfl, Nat.le_of_ble_eq_true rfl⟩) ⟨qO.blind, qrecv hC (hW.to (qLV1 (j := 4) (by decide))) rfl, qO.pre hC (hW.list hF9 (J := 4) (by decide) hi)⟩ rfl rfl hl.1 rfl (lv_room (Nat.le_of_ble_eq_true rfl)) dX7_answerRequests_18 ⟨Nat.le_of_ble_eq_true rfl, Nat.le_of_ble_eq_true rfl⟩) hS (fun _ h => h.elim) (fun locs hS => ?_)
    refine va_castS hx hb hown (hts (.classLink RX7 173 "LogWeave$Request") (List.mem_of_getElem? (i := 2) (by decide +kernel))) (hC.1.1 8 _ rfl).2 (qrecv hC (hW.to (qLV12 hi)) rfl) dX7_answerRequests_21 ?_
    refine lv_astore_n (lv' := [(2, .ref (ad 12 i)), (0, .ref (ad 0 0)), (1, .int (nI i))]) hx hb dX7_answerRequests_24 rfl hl (by decide) rfl (fun ls hl => ?_)
    refine lv_aload_n hx hb dX7_answerRequests_25 rfl (lv_at hl 0 rfl) ?_
    refine q_getN (C := RX5) (T := TX5) (N := 4) hx hb hts iRX5 hown hC.1 (hW.to (qLV12 hi)) rfl 2 (by decide) (va_Nw.use rfl (qf_RX7_183 hC)) rfl (v := .int (nI ((qfArS σ i) 193 i))) rfl dX7_answerRequests_26 ?_
    refine q_ti (y := nI (σ 193 i)) (by rw [qfArS_at]) ?_
    refine q_ne0 (tgt := 60) hx hb (q31 (hB _ _)) dX7_answerRequests_29 (by decide) (fun c2 => ?_) (fun c2 => ?_)
    · skip
      refine lv_iinc (v := nI (i + 1)) (lv' := [(1, .int (nI (i + 1))), (2, .ref (ad 12 i)), (0, .ref (ad 0 0))]) hx hb dX7_answerRequests_60 hl (k := 2) rfl (nI_1 i) (by decide) rfl (fun ls hl => ?_)
      refine lv_goto (tgt := 2) hx hb dX7_answerRequests_63 (by decide) ?_
      exact ih _ _ ls ⟨(by rw [qfArS_same (fun z => c2 z.1)]; exact hW), hS, lv_sub hl [2, 0] rfl⟩
    · skip
      refine lv_aload_n hx hb dX7_answerRequests_32 rfl (lv_at hl 0 rfl) ?_
      refine q_getN (C := RX5) (T := TX5) (N := 4) hx hb hts iRX5 hown hC.1 (hW.to (qLV12 hi)) rfl 1 (by decide) (va_Nw.use rfl (qf_RX7_397 hC)) rfl (v := .int (nI ((qfArS σ i) 192 i))) rfl dX7_answerRequests_33 ?_
      refine lv_aload_n hx hb dX7_answerRequests_36 rfl (lv_at hl 1 rfl) ?_
      refine q_get (C := RX7) (T := TX7) (N := 7) hx hb hts iRX7 hown hC.1 (hW.to qLV0) rfl 6 (by decide) (hts (.fieldLink RX7 76 "LogWeave" "now" "I") (List.mem_of_getElem? (i := 3) (by decide +kernel))) rfl (v := .int (nI ((qfArS σ i) 1 0))) rfl dX7_answerRequests_37 ?_
      refine q_ti (y := nI (σ 1 0)) rfl ?_
      refine q_gt (tgt := 60) hx hb (q31 (hB _ _)) (q31 (hB _ _)) dX7_answerRequests_40 (by decide) (fun c3 => ?_) (fun c3 => ?_)
      · skip
        have c3 : σ 1 0 < σ 192 i := c3
        refine lv_iinc (v := nI (i + 1)) (lv' := [(1, .int (nI (i + 1))), (2, .ref (ad 12 i)), (0, .ref (ad 0 0))]) hx hb dX7_answerRequests_60 hl (k := 2) rfl (nI_1 i) (by decide) rfl (fun ls hl => ?_)
        refine lv_goto (tgt := 2) hx hb dX7_answerRequests_63 (by decide) ?_
        exact ih _ _ ls ⟨(by rw [qfArS_same (fun z => absurd z.2 (by omega))]; exact hW), hS, lv_sub hl [2, 0] rfl⟩
      · skip
        have c3 : σ 192 i ≤ σ 1 0 := c3
        have c9 : qdu σ i := ⟨c2, c3⟩
        refine lv_aload_n hx hb dX7_answerRequests_43 rfl (lv_at hl 0 rfl) ?_
        refine lv_iconst (v := nI 1) hx hb dX7_answerRequests_44 (by decide) ?_
        refine q_putN (C := RX5) (T := TX5) (N := 4) (ty := .boolean) (v := .int (nI 1)) hx hb hts iRX5 tyX5 tyX5_ok nmX5 hown hC.1 (hW.to (qLV12 hi)) (hW.in (qLV12 hi)) hS rfl 2 (by decide) (va_Nw.use rfl (qf_RX7_183 hC)) rfl rfl (by decide +kernel) rfl rfl (Nat.le_of_ble_eq_true rfl) dX7_answerRequests_45 (fun H locs hat hsz hoq hS => ?_)
        have hW := hW.up 193 i 1 (by decide) (by decide) (qLV12 hi) ((qLV12 (G := G) (es := es) (σ := qup (qfArS σ i) 193 i 1) (ad := ad) hi).trans (by rw [qup_s]; rfl)) hat hoq
        have hF8 : qWF (qup (qfArS σ i) 193 i 1) := hF9.up 193 i 1 (by decide) (by decide) (by decide) (fun z => absurd z (by decide)) (fun z => absurd z (by decide)) (fun z => absurd z (by decide)) (fun z => absurd z (by decide))
        refine lv_aload_n hx hb dX7_answerRequests_48 rfl (lv_at hl 0 rfl) ?_
        refine lv_aload_n hx hb dX7_answerRequests_49 rfl (lv_at hl 1 rfl) ?_
        refine lv_aload_n hx hb dX7_answerRequests_50 rfl (lv_at hl 0 rfl) ?_
        refine q_getN (C := RX5) (T := TX5) (N := 4) hx hb hts iRX5 hown hC.1 (hW.to (qLV12 hi)) rfl 0 (by decide) (va_Nw.use rfl (qf_RX7_400 hC)) rfl (v := .ref (ad 13 i)) rfl dX7_answerRequests_51 ?_
        refine q_v (va_runV (As := [.ref (ad 13 i)]) (rest := [.ref (ad 12 i)]) ⟨hx, hb, hml, hown, hts⟩ (m_archivedLines l G es A (qup (qfArS σ i) 193 i 1) ad hF8 13 i (σ 208 i) (σ 209 i) 0 0 (qLV13 hi) (by decide) (hB _ _) (hB _ _) (by decide)) (cwV 1 hts gX7_answerRequests_X7_archivedLines rfl rfl rfl (by decide +kernel) ⟨Nat.le_of_ble_eq_true rfl, Nat.le_of_ble_eq_true rfl⟩) ⟨qR.blind, qrecv hC (hW.to qLV0) rfl, qR.pre hC hW⟩ rfl rfl hl.1 rfl (lv_room (Nat.le_of_ble_eq_true rfl)) dX7_answerRequests_54 ⟨Nat.le_of_ble_eq_true rfl, Nat.le_of_ble_eq_true rfl⟩) hS (fun _ h => h.elim) (fun locs hS => ?_)
        refine q_ti (y := nI (qarch σ (σ 208 i) (σ 209 i) 0 0)) (congrArg nI (qarch_congr (τ := qup (qfArS σ i) 193 i 1) (σ := σ) (fun r j h1 h2 => (qup_k (by omega)).trans (qfArS_r σ i j (by omega) (by omega))) rfl _ _ _ _ (by decide))) ?_
        refine q_putN (C := RX5) (T := TX5) (N := 4) (ty := .int) (v := .int (nI (qarch σ (σ 208 i) (σ 209 i) 0 0))) hx hb hts iRX5 tyX5 tyX5_ok nmX5 hown hC.1 (hW.to (qLV12 hi)) (hW.in (qLV12 hi)) hS rfl 3 (by decide) (va_Nw.use rfl (qf_RX7_188 hC)) rfl rfl (by decide +kernel) rfl rfl (Nat.le_of_ble_eq_true rfl) dX7_answerRequests_57 (fun H locs hat hsz hoq hS => ?_)
        have hW := hW.up 194 i (qarch σ (σ 208 i) (σ 209 i) 0 0) (by decide) (by decide) (qLV12 hi) ((qLV12 (G := G) (es := es) (σ := qup (qup (qfArS σ i) 193 i 1) 194 i (qarch σ (σ 208 i) (σ 209 i) 0 0)) (ad := ad) hi).trans (by rw [qup_s]; rfl)) hat hoq
        refine lv_iinc (v := nI (i + 1)) (lv' := [(1, .int (nI (i + 1))), (2, .ref (ad 12 i)), (0, .ref (ad 0 0))]) hx hb dX7_answerRequests_60 hl (k := 2) rfl (nI_1 i) (by decide) rfl (fun ls hl => ?_)
        refine lv_goto (tgt := 2) hx hb dX7_answerRequests_63 (by decide) ?_
        exact ih _ _ ls ⟨(by rw [qfArS_step c9]; exact hW), hS, lv_sub hl [2, 0] rfl⟩
set_option maxHeartbeats 4000000 in
set_option maxRecDepth 100000 in
theorem m_forgetLeavers (l : Launch) (G : QG) (es : Nat) (A : Nat → Prop) (σ ad : QSt) (hF : qWF σ) (a : Nat) (ha : a < σ 0 2) (hm : ∀ i j, i ≤ j → j < σ 0 0 → σ 67 i ≤ σ 67 j) (hc : qfrom (qlv σ a) 0 (σ 0 0) ≤ σ 132 a) (hg : ∀ l0, l0 < σ 0 0 → qlv σ a l0 → 1 ≤ σ 70 l0) : Met l yX7_forgetLeavers wsX7_forgetLeavers ({ frames := 3, cells := 0, slots := 0, locals := 64 } : Room) (qW G es A σ ad [.ref (ad 0 0), .ref (ad 8 a)]) (qWV (none) (qLW G es A (qfFl σ a) ad) A) 0 0 A := by
  refine Met.ofW (cc := cX7_forgetLeavers) (maxL := 5) (ret := none) (by decide) rfl ?_
  intro p e s m args below meth c s₁ B hml hv
  obtain ⟨rfl, hC, hW, hZ, hA⟩ := hv
  have hx := B.exec
  have hb := B.bytes
  have hr := B.returns
  have hts := atoms_spec (ws := wsX7_forgetLeavers) B.pre
  have hown : s.vm.findClass RX7 = some m.cls := findClass_of_methodNamed B.named
  have hlocks := B.notSynchronized
  have hB := hF.1
  have hn := hF.n
  have hS : va_S A s.heap s.heap [] := va_S.rf
  have hl := lv_entry ([.ref (ad 0 0), .ref (ad 8 a)]) (n := 5) (Nat.le_of_ble_eq_true rfl)
  rw [lg_entry_eq]
  generalize (lg_sl ([.ref (ad 0 0), .ref (ad 8 a)]) ++ List.replicate (5 - (lg_sl ([.ref (ad 0 0), .ref (ad 8 a)])).length) Slot.unset).toArray = ls at hl ⊢
  have hl : lv_has ls 5 [(0, .ref (ad 0 0)), (1, .ref (ad 8 a))] := hl
  have iRX7 : ∀ w ∈ wsX70, w ∈ wsX7_forgetLeavers := by decide +kernel
  have iRX0 : ∀ w ∈ wsX00, w ∈ wsX7_forgetLeavers := by decide +kernel
  have iRX3 : ∀ w ∈ wsX30, w ∈ wsX7_forgetLeavers := by decide +kernel
  refine lv_aload_n hx hb dX7_forgetLeavers_0 rfl (lv_at hl 0 rfl) ?_
  refine q_get (C := RX7) (T := TX7) (N := 7) hx hb hts iRX7 hown hC.1 (hW.to qLV0) rfl 6 (by decide) (hts (.fieldLink RX7 76 "LogWeave" "now" "I") (List.mem_of_getElem? (i := 1) (by decide +kernel))) rfl (v := .int (nI (σ 1 0))) rfl dX7_forgetLeavers_1 ?_
  refine lv_aload_n hx hb dX7_forgetLeavers_4 rfl (lv_at hl 1 rfl) ?_
  refine q_getN (C := RX0) (T := TX0) (N := 9) hx hb hts iRX0 hown hC.1 (hW.to (qLV8 ha)) rfl 3 (by decide) (va_Nw.use rfl (qf_RX7_361 hC)) rfl (v := .int (nI (σ 129 a))) rfl dX7_forgetLeavers_5 ?_
  refine lv_isub hx hb dX7_forgetLeavers_8 ?_
  refine lv_istore_n (lv' := [(2, .int ((nI (σ 1 0)) - (nI (σ 129 a)))), (0, .ref (ad 0 0)), (1, .ref (ad 8 a))]) hx hb dX7_forgetLeavers_9 rfl hl (by decide) rfl (fun ls hl => ?_)
  refine lv_aload_n hx hb dX7_forgetLeavers_10 rfl (lv_at hl 1 rfl) ?_
  refine q_get (C := RX7) (T := TX7) (N := 7) hx hb hts iRX7 hown hC.1 (hW.to qLV0) rfl 0 (by decide) (hts (.fieldLink RX7 10 "LogWeave" "lineList" "Ljava/util/ArrayList;") (List.mem_of_getElem? (i := 2) (by decide +kernel))) rfl (v := .ref (ad 1 0)) rfl dX7_forgetLeavers_11 ?_
  refine q_v (va_runV (As := []) (rest := []) ⟨hx, hb, hml, hown, hts⟩ (m_size l G (ad 1 0) _ _ (nI (σ 0 0))) (cwV 0 hts gX7_forgetLeavers_Jx4a65c_size_8abf5 rfl rfl rfl (by decide +kernel) ⟨Nat.le_of_ble_eq_true rfl, Nat.le_of_ble_eq_true rfl⟩) ⟨qO.blind, qrecv hC (hW.to (qLV1 (j := 0) (by decide))) rfl, qO.pre hC (hW.lob (by decide))⟩ rfl rfl hl.1 rfl (lv_room (Nat.le_of_ble_eq_true rfl)) dX7_forgetLeavers_14 ⟨Nat.le_of_ble_eq_true rfl, Nat.le_of_ble_eq_true rfl⟩) hS (fun _ h => h.elim) (fun locs hS => ?_)
  refine lv_iconst (v := nI 1) hx hb dX7_forgetLeavers_17 (by decide) ?_
  refine lv_isub hx hb dX7_forgetLeavers_18 ?_
  refine q_ti rfl ?_
  refine lv_istore_n (lv' := [(3, .int (nI (σ 0 0) - nI 1)), (2, .int ((nI (σ 1 0)) - (nI (σ 129 a)))), (0, .ref (ad 0 0)), (1, .ref (ad 8 a))]) hx hb dX7_forgetLeavers_19 rfl hl (by decide) rfl (fun ls hl => ?_)
  refine q_dn (fun k H locs ls => qLW G es A (qfFlS σ a k) ad H ∧ va_S A s.heap H locs ∧ ∃ (h : Unit), (k ≤ σ 0 0) ∧ lv_has ls 5 [(0, .ref (ad 0 0)), (1, .ref (ad 8 a)), (2, .int (nI (σ 1 0) - nI (σ 129 a))), (3, .int (nI k - nI 1))]) ?_ ?_ (σ 0 0) ⟨(by rw [qfFlS_top]; exact hW), hS, (), Nat.le_refl _, lv_sub hl [2, 3, 1, 0] rfl⟩
  · rintro H locs ls ⟨hW, hS, h, e_h, hl⟩
    rw [show nI 0 - nI 1 = -1 from by decide] at hl
    refine lv_iload_n hx hb dX7_forgetLeavers_20 rfl (lv_at hl 3 rfl) ?_
    refine lv_if_lt (tgt := 105) hx hb dX7_forgetLeavers_21 (by decide) (fun g9 => ?_) (fun g9 => absurd (by decide) g9)
    exact W.vret hx hb hr (fun t ht _ => ⟨rfl, by rw [ht]; exact (by unfold qfFl; exact hW), hS.F ht⟩) hS.2.2 dX7_forgetLeavers_105
  · rintro k H locs ls ⟨hW, hS, h, e_h, hl⟩ ih
    have hF9 := qfFlS_wf hF a (k + 1)
    rw [show nI (k + 1) - nI 1 = nI k from pk_sub (by omega)] at hl
    have hk : k < σ 0 0 := e_h
    refine lv_iload_n hx hb dX7_forgetLeavers_20 rfl (lv_at hl 3 rfl) ?_
    refine q_lt0 (tgt := 105) hx hb (by omega) dX7_forgetLeavers_21 (by decide) (fun g1 => g1.elim) (fun g1 => ?_)
    refine lv_aload_n hx hb dX7_forgetLeavers_24 rfl (lv_at hl 0 rfl) ?_
    refine q_get (C := RX7) (T := TX7) (N := 7) hx hb hts iRX7 hown hC.1 (hW.to qLV0) rfl 0 (by decide) (hts (.fieldLink RX7 10 "LogWeave" "lineList" "Ljava/util/ArrayList;") (List.mem_of_getElem? (i := 2) (by decide +kernel))) rfl (v := .ref (ad 1 0)) rfl dX7_forgetLeavers_25 ?_
    refine lv_iload_n hx hb dX7_forgetLeavers_28 rfl (lv_at hl 3 rfl) ?_
    refine q_v (va_runV (As := [.int (nI k)]) (rest := []) ⟨hx, hb, hml, hown, hts⟩ (m_get l G (ad 1 0) (ad 2 0) ((qfFlS σ a (k + 1)) 32 0) ((qfFlS σ a (k + 1)) 0 0) (fun i => if i < (qfFlS σ a (k + 1)) 0 0 then some (ad (4 + 2 * 0) i) else none) (.int (nI ((qfFlS σ a (k + 1)) 16 0))) k (ad 4 k) hk (hF9.c 0) (hF9.1 _ _) (if_pos hk)) (cwV 1 hts gX7_forgetLeavers_Jx4a65c_get_915e3 rfl rfl rfl (by decide +kernel) ⟨Nat.le_of_ble_eq_true rfl, Nat.le_of_ble_eq_true rfl⟩) ⟨qO.blind, qrecv hC (hW.to (qLV1 (j := 0) (by decide))) rfl, qO.pre hC (hW.list hF9 (J := 0) (by decide) hk)⟩ rfl rfl hl.1 rfl (lv_room (Nat.le_of_ble_eq_true rfl)) dX7_forgetLeavers_29 ⟨Nat.le_of_ble_eq_true rfl, Nat.le_of_ble_eq_true rfl⟩) hS (fun _ h => h.elim) (fun locs hS => ?_)
    refine va_castS hx hb hown (hts (.classLink RX7 74 "LogWeave$Line") (List.mem_of_getElem? (i := 3) (by decide +kernel))) (hC.1.1 6 _ rfl).2 (qrecv hC (hW.to (qLV4 hk)) rfl) dX7_forgetLeavers_32 ?_
    refine lv_astore (lv' := [(4, .ref (ad 4 k)), (0, .ref (ad 0 0)), (1, .ref (ad 8 a)), (2, .int (nI (σ 1 0) - nI (σ 129 a))), (3, .int (nI k))]) hx hb dX7_forgetLeavers_35 hl (by decide) rfl (fun ls hl => ?_)
    refine lv_aload hx hb dX7_forgetLeavers_37 (lv_at hl 0 rfl) ?_
    refine q_getN (C := RX3) (T := TX3) (N := 8) hx hb hts iRX3 hown hC.1 (hW.to (qLV4 hk)) rfl 4 (by decide) (va_Nw.use rfl (qf_RX7_386 hC)) rfl (v := .int (nI ((qfFlS σ a (k + 1)) 67 k))) rfl dX7_forgetLeavers_39 ?_
    refine q_ti (y := nI (σ 67 k)) rfl ?_
    refine lv_iload_n hx hb dX7_forgetLeavers_42 rfl (lv_at hl 3 rfl) ?_
    refine lv_icmp_ge (tgt := 47) hx hb dX7_forgetLeavers_43 (by decide) (fun c2 => ?_) (fun c2 => ?_)
    · skip
      refine lv_aload hx hb dX7_forgetLeavers_47 (lv_at hl 0 rfl) ?_
      refine q_getN (C := RX3) (T := TX3) (N := 8) hx hb hts iRX3 hown hC.1 (hW.to (qLV4 hk)) rfl 4 (by decide) (va_Nw.use rfl (qf_RX7_386 hC)) rfl (v := .int (nI ((qfFlS σ a (k + 1)) 67 k))) rfl dX7_forgetLeavers_49 ?_
      refine q_ti (y := nI (σ 67 k)) rfl ?_
      refine lv_iload_n hx hb dX7_forgetLeavers_52 rfl (lv_at hl 3 rfl) ?_
      refine lv_icmp_ne (tgt := 99) hx hb dX7_forgetLeavers_53 (by decide) (fun c3 => ?_) (fun c3 => ?_)
      · skip
        refine lv_iinc (v := nI k - nI 1) (lv' := [(3, .int (nI k - nI 1)), (4, .ref (ad 4 k)), (0, .ref (ad 0 0)), (1, .ref (ad 8 a)), (2, .int (nI (σ 1 0) - nI (σ 129 a)))]) hx hb dX7_forgetLeavers_99 hl (k := 4) rfl (q_dec _) (by decide) rfl (fun ls hl => ?_)
        refine lv_goto (tgt := 20) hx hb dX7_forgetLeavers_102 (by decide) ?_
        exact ih _ _ ls ⟨(by rw [qfFlS_no (Nat.le_succ k) (fun l h1 h2 => by rw [show l = k by omega]; exact fun z => c3 ((q_subI (hB 67 k) (hB 1 0) (hB 129 a)).2.mpr z.1))]; exact hW), hS, (), Nat.le_of_lt hk, lv_sub hl [2, 3, 4, 0] rfl⟩
      · skip
        have c4 := (q_subI (hB 67 k) (hB 1 0) (hB 129 a)).2.mp c3
        refine lv_aload hx hb dX7_forgetLeavers_56 (lv_at hl 0 rfl) ?_
        refine q_getN (C := RX3) (T := TX3) (N := 8) hx hb hts iRX3 hown hC.1 (hW.to (qLV4 hk)) rfl 6 (by decide) (va_Nw.use rfl (qf_RX7_103 hC)) rfl (v := .int (nI ((qfFlS σ a (k + 1)) 69 k))) rfl dX7_forgetLeavers_58 ?_
        refine lv_bipush (v := nI 100) hx hb dX7_forgetLeavers_61 (by decide) ?_
        refine q_eq (tgt := 99) hx hb (q31 (hF9.1 _ _)) (by decide) dX7_forgetLeavers_63 (by decide) (fun c5 => ?_) (fun c5 => ?_)
        · skip
          refine lv_iinc (v := nI k - nI 1) (lv' := [(3, .int (nI k - nI 1)), (4, .ref (ad 4 k)), (0, .ref (ad 0 0)), (1, .ref (ad 8 a)), (2, .int (nI (σ 1 0) - nI (σ 129 a)))]) hx hb dX7_forgetLeavers_99 hl (k := 4) rfl (q_dec _) (by decide) rfl (fun ls hl => ?_)
          refine lv_goto (tgt := 20) hx hb dX7_forgetLeavers_102 (by decide) ?_
          exact ih _ _ ls ⟨(by rw [qfFlS_no (Nat.le_succ k) (fun l h1 h2 => by rw [show l = k by omega]; exact fun z => z.2.1 c5)]; exact hW), hS, (), Nat.le_of_lt hk, lv_sub hl [2, 3, 4, 0] rfl⟩
        · skip
          have h80 : ∀ P, (qfFlS σ a (k + 1)) (80 + (P - 1)) k = σ (80 + (P - 1)) k ∨ 3 < P := fun P => by rcases Nat.lt_or_ge 3 P with z | z; exact Or.inr z; exact Or.inl (qfFlS_r σ a _ k (by omega) (by omega))
          refine lv_aload_n hx hb dX7_forgetLeavers_66 rfl (lv_at hl 2 rfl) ?_
          refine q_getN (C := RX0) (T := TX0) (N := 9) hx hb hts iRX0 hown hC.1 (hW.to (qLV8 ha)) rfl 1 (by decide) (va_Nw.use rfl (qf_RX7_389 hC)) rfl (v := .ref (ad 9 a)) rfl dX7_forgetLeavers_67 ?_
          refine lv_aload hx hb dX7_forgetLeavers_70 (lv_at hl 0 rfl) ?_
          refine q_v (va_runVN (C := RX1) (As := [.ref (ad 4 k)]) (rest := []) ⟨hx, hb, hml, hown, hts⟩ (m_takes l G es A (qfFlS σ a (k + 1)) ad hF9 9 a (σ 144 a) (σ 145 a) (σ 146 a) (σ 147 a) (qLV9 ha) (hF.plc ha) (hB _ _) (hB _ _) (hB _ _) k hk) ⟨va_cnB 1 hts gX7_forgetLeavers_X1_takes_n393 rfl rfl rfl (qm_RX7_393 hC) (hts (.initialized RX1) (List.mem_of_getElem? (i := 28) (by decide +kernel))) (by decide +kernel) ⟨Nat.le_of_ble_eq_true rfl, Nat.le_of_ble_eq_true rfl⟩, (hts (.instanceMethod yX1_takes) (List.mem_of_getElem? (i := 27) (by decide +kernel))), (hts (.selects RX1 yX1_takes yX1_takes) (List.mem_of_getElem? (i := 29) (by decide +kernel)))⟩ ⟨qR.blind, qrecv hC (hW.to (qLV9 ha)) rfl, qR.pre hC hW⟩ rfl rfl hl.1 rfl (lv_room (Nat.le_of_ble_eq_true rfl)) dX7_forgetLeavers_72 ⟨Nat.le_of_ble_eq_true rfl, Nat.le_of_ble_eq_true rfl⟩) hS (fun _ h => h.elim) (fun locs hS => ?_)
          have htq : qtk (qfFlS σ a (k + 1)) (σ 144 a) (σ 145 a) (σ 146 a) (σ 147 a) k ↔ qtk σ (σ 144 a) (σ 145 a) (σ 146 a) (σ 147 a) k := by have h9 := (h80 (σ 146 a)).resolve_right (by have := hF.plc ha; omega); unfold qtk; rw [h9]; exact Iff.rfl
          refine q_eq0 (tgt := 99) hx hb q_31B dX7_forgetLeavers_75 (by decide) (fun c6 => ?_) (fun c6 => ?_)
          · skip
            refine lv_iinc (v := nI k - nI 1) (lv' := [(3, .int (nI k - nI 1)), (4, .ref (ad 4 k)), (0, .ref (ad 0 0)), (1, .ref (ad 8 a)), (2, .int (nI (σ 1 0) - nI (σ 129 a)))]) hx hb dX7_forgetLeavers_99 hl (k := 4) rfl (q_dec _) (by decide) rfl (fun ls hl => ?_)
            refine lv_goto (tgt := 20) hx hb dX7_forgetLeavers_102 (by decide) ?_
            exact ih _ _ ls ⟨(by rw [qfFlS_no (Nat.le_succ k) (fun l h1 h2 => by rw [show l = k by omega]; exact fun z => (by rw [qB_t (htq.mpr z.2.2)] at c6; exact absurd c6 (by decide)))]; exact hW), hS, (), Nat.le_of_lt hk, lv_sub hl [2, 3, 4, 0] rfl⟩
          · skip
            have c7 : qlv σ a k := ⟨c4, c5, htq.mp (Classical.byContradiction fun h => c6 (qB_f h))⟩
            have c8 := hg k hk c7
            have c9 : 1 ≤ qfFlS σ a (k + 1) 132 a := by have h1 := qfrom_anti (P := qlv σ a) (Nat.zero_le k) (σ 0 0); have h2 := qfrom_step (P := qlv σ a) hk; rw [qB_t c7] at h2; rw [qfFlS_132]; omega
            refine lv_aload_n hx hb dX7_forgetLeavers_78 rfl (lv_at hl 2 rfl) ?_
            refine lv_dup hx hb dX7_forgetLeavers_79 rfl ?_
            refine q_getN (C := RX0) (T := TX0) (N := 9) hx hb hts iRX0 hown hC.1 (hW.to (qLV8 ha)) rfl 6 (by decide) (va_Nw.use rfl (qf_RX7_213 hC)) rfl (v := .int (nI ((qfFlS σ a (k + 1)) 132 a))) rfl dX7_forgetLeavers_80 ?_
            refine lv_iconst (v := nI 1) hx hb dX7_forgetLeavers_83 (by decide) ?_
            refine lv_isub hx hb dX7_forgetLeavers_84 ?_
            refine q_ti (pk_sub c9) ?_
            refine q_putN (C := RX0) (T := TX0) (N := 9) (ty := .int) (v := .int (nI (qfFlS σ a (k + 1) 132 a - 1))) hx hb hts iRX0 tyX0 tyX0_ok nmX0 hown hC.1 (hW.to (qLV8 ha)) (hW.in (qLV8 ha)) hS rfl 6 (by decide) (va_Nw.use rfl (qf_RX7_213 hC)) rfl rfl (by decide +kernel) rfl rfl (Nat.le_of_ble_eq_true rfl) dX7_forgetLeavers_85 (fun H locs hat hsz hoq hS => ?_)
            have hW := hW.up 132 a (qfFlS σ a (k + 1) 132 a - 1) (by decide) (by decide) (qLV8 ha) ((qLV8 (G := G) (es := es) (σ := qup (qfFlS σ a (k + 1)) 132 a (qfFlS σ a (k + 1) 132 a - 1)) (ad := ad) ha).trans (by rw [qup_s]; rfl)) hat hoq
            refine lv_aload hx hb dX7_forgetLeavers_88 (lv_at hl 0 rfl) ?_
            refine lv_dup hx hb dX7_forgetLeavers_90 rfl ?_
            refine q_getN (C := RX3) (T := TX3) (N := 8) hx hb hts iRX3 hown hC.1 (hW.to (qLV4 hk)) rfl 7 (by decide) (va_Nw.use rfl (qf_RX7_263 hC)) rfl (v := .int (nI ((qfFlS σ a (k + 1)) 70 k))) rfl dX7_forgetLeavers_91 ?_
            refine q_ti (y := nI (σ 70 k)) (by rw [qfFlS_70]) ?_
            refine lv_iconst (v := nI 1) hx hb dX7_forgetLeavers_94 (by decide) ?_
            refine lv_isub hx hb dX7_forgetLeavers_95 ?_
            refine q_ti (pk_sub c8) ?_
            refine q_putN (C := RX3) (T := TX3) (N := 8) (ty := .int) (v := .int (nI (σ 70 k - 1))) hx hb hts iRX3 tyX3 tyX3_ok nmX3 hown hC.1 (hW.to (qLV4 hk)) (hW.in (qLV4 hk)) hS rfl 7 (by decide) (va_Nw.use rfl (qf_RX7_263 hC)) rfl rfl (by decide +kernel) rfl rfl (Nat.le_of_ble_eq_true rfl) dX7_forgetLeavers_96 (fun H locs hat hsz hoq hS => ?_)
            have hW := hW.up 70 k (σ 70 k - 1) (by decide) (by decide) (qLV4 hk) ((qLV4 (G := G) (es := es) (σ := qup (qup (qfFlS σ a (k + 1)) 132 a (qfFlS σ a (k + 1) 132 a - 1)) 70 k (σ 70 k - 1)) (ad := ad) hk).trans (by rw [qup_s]; rfl)) hat hoq
            refine lv_iinc (v := nI k - nI 1) (lv' := [(3, .int (nI k - nI 1)), (4, .ref (ad 4 k)), (0, .ref (ad 0 0)), (1, .ref (ad 8 a)), (2, .int (nI (σ 1 0) - nI (σ 129 a)))]) hx hb dX7_forgetLeavers_99 hl (k := 4) rfl (q_dec _) (by decide) rfl (fun ls hl => ?_)
            refine lv_goto (tgt := 20) hx hb dX7_forgetLeavers_102 (by decide) ?_
            exact ih _ _ ls ⟨(by rw [qfFlS_step hk c7]; exact hW), hS, (), Nat.le_of_lt hk, lv_sub hl [2, 3, 4, 0] rfl⟩
    · skip
      have c3 := (q_subI (hB 67 k) (hB 1 0) (hB 129 a)).1.mp (Int32.not_le.mp c2)
      exact W.vret hx hb hr (fun t ht _ => ⟨rfl, by rw [ht]; exact (by unfold qfFl; rw [qfFlS_no (Nat.zero_le (k + 1)) (fun l _ hl z => by have := hm l k (by omega) hk; have := z.1; omega)]; exact hW), hS.F ht⟩) hS.2.2 dX7_forgetLeavers_46
set_option maxHeartbeats 4000000 in
set_option maxRecDepth 100000 in
theorem m_standOnCounted (l : Launch) (G : QG) (es : Nat) (A : Nat → Prop) (σ ad : QSt) (hF : qWF σ) (f a : Nat) (hf : f < σ 0 3) (hfa : σ 160 f = a) (hm : ∀ i j, i ≤ j → j < σ 0 0 → σ 67 i ≤ σ 67 j) (hs : σ 163 f ≤ 1000000) (hg : ∀ l0, σ 70 l0 ≤ 1000000) : Met l yX7_standOnCounted wsX7_standOnCounted ({ frames := 3, cells := 0, slots := 0, locals := 64 } : Room) (qW G es A σ ad [.ref (ad 0 0), .ref (ad 10 f)]) (qWV (none) (qLW G es A (qfSt σ a f) ad) A) 0 0 A := by
  refine Met.ofW (cc := cX7_standOnCounted) (maxL := 5) (ret := none) (by decide) rfl ?_
  intro p e s m args below meth c s₁ B hml hv
  obtain ⟨rfl, hC, hW, hZ, hA⟩ := hv
  have hx := B.exec
  have hb := B.bytes
  have hr := B.returns
  have hts := atoms_spec (ws := wsX7_standOnCounted) B.pre
  have hown : s.vm.findClass RX7 = some m.cls := findClass_of_methodNamed B.named
  have hlocks := B.notSynchronized
  have hB := hF.1
  have hn := hF.n
  have hS : va_S A s.heap s.heap [] := va_S.rf
  have hl := lv_entry ([.ref (ad 0 0), .ref (ad 10 f)]) (n := 5) (Nat.le_of_ble_eq_true rfl)
  rw [lg_entry_eq]
  generalize (lg_sl ([.ref (ad 0 0), .ref (ad 10 f)]) ++ List.replicate (5 - (lg_sl ([.ref (ad 0 0), .ref (ad 10 f)])).length) Slot.unset).toArray = ls at hl ⊢
  have hl : lv_has ls 5 [(0, .ref (ad 0 0)), (1, .ref (ad 10 f))] := hl
  have iRX7 : ∀ w ∈ wsX70, w ∈ wsX7_standOnCounted := by decide +kernel
  have iRX0 : ∀ w ∈ wsX00, w ∈ wsX7_standOnCounted := by decide +kernel
  have iRX2 : ∀ w ∈ wsX20, w ∈ wsX7_standOnCounted := by decide +kernel
  have iRX3 : ∀ w ∈ wsX30, w ∈ wsX7_standOnCounted := by decide +kernel
  have ha : a < σ 0 2 := by rw [← hfa]; exact hF.alt hf
  refine lv_aload_n hx hb dX7_standOnCounted_0 rfl (lv_at hl 1 rfl) ?_
  refine q_getN (C := RX2) (T := TX2) (N := 5) hx hb hts iRX2 hown hC.1 (hW.to (qLV10 hf)) rfl 0 (by decide) (va_Nw.use rfl (qf_RX7_227 hC)) rfl (v := .ref (ad 8 (σ 160 f))) rfl dX7_standOnCounted_1 ?_
  refine q_t (w := .ref (ad 8 a)) (by rw [hfa]) ?_
  refine lv_astore_n (lv' := [(2, .ref (ad 8 a)), (0, .ref (ad 0 0)), (1, .ref (ad 10 f))]) hx hb dX7_standOnCounted_4 rfl hl (by decide) rfl (fun ls hl => ?_)
  refine lv_aload_n hx hb dX7_standOnCounted_5 rfl (lv_at hl 1 rfl) ?_
  refine q_get (C := RX7) (T := TX7) (N := 7) hx hb hts iRX7 hown hC.1 (hW.to qLV0) rfl 0 (by decide) (hts (.fieldLink RX7 10 "LogWeave" "lineList" "Ljava/util/ArrayList;") (List.mem_of_getElem? (i := 1) (by decide +kernel))) rfl (v := .ref (ad 1 0)) rfl dX7_standOnCounted_6 ?_
  refine q_v (va_runV (As := []) (rest := []) ⟨hx, hb, hml, hown, hts⟩ (m_size l G (ad 1 0) _ _ (nI (σ 0 0))) (cwV 0 hts gX7_standOnCounted_Jx4a65c_size_8abf5 rfl rfl rfl (by decide +kernel) ⟨Nat.le_of_ble_eq_true rfl, Nat.le_of_ble_eq_true rfl⟩) ⟨qO.blind, qrecv hC (hW.to (qLV1 (j := 0) (by decide))) rfl, qO.pre hC (hW.lob (by decide))⟩ rfl rfl hl.1 rfl (lv_room (Nat.le_of_ble_eq_true rfl)) dX7_standOnCounted_9 ⟨Nat.le_of_ble_eq_true rfl, Nat.le_of_ble_eq_true rfl⟩) hS (fun _ h => h.elim) (fun locs hS => ?_)
  refine lv_iconst (v := nI 1) hx hb dX7_standOnCounted_12 (by decide) ?_
  refine lv_isub hx hb dX7_standOnCounted_13 ?_
  refine q_ti rfl ?_
  refine lv_istore_n (lv' := [(3, .int (nI (σ 0 0) - nI 1)), (2, .ref (ad 8 a)), (0, .ref (ad 0 0)), (1, .ref (ad 10 f))]) hx hb dX7_standOnCounted_14 rfl hl (by decide) rfl (fun ls hl => ?_)
  refine q_dn (fun k H locs ls => qLW G es A (qfStS σ a f k) ad H ∧ va_S A s.heap H locs ∧ ∃ (h : Unit), (k ≤ σ 0 0) ∧ lv_has ls 5 [(0, .ref (ad 0 0)), (1, .ref (ad 10 f)), (2, .ref (ad 8 a)), (3, .int (nI k - nI 1))]) ?_ ?_ (σ 0 0) ⟨(by rw [qfStS_top]; exact hW), hS, (), Nat.le_refl _, lv_sub hl [2, 3, 1, 0] rfl⟩
  · rintro H locs ls ⟨hW, hS, h, e_h, hl⟩
    rw [show nI 0 - nI 1 = -1 from by decide] at hl
    refine lv_iload_n hx hb dX7_standOnCounted_15 rfl (lv_at hl 3 rfl) ?_
    refine lv_if_lt (tgt := 92) hx hb dX7_standOnCounted_16 (by decide) (fun g9 => ?_) (fun g9 => absurd (by decide) g9)
    exact W.vret hx hb hr (fun t ht _ => ⟨rfl, by rw [ht]; exact (by unfold qfSt; exact hW), hS.F ht⟩) hS.2.2 dX7_standOnCounted_92
  · rintro k H locs ls ⟨hW, hS, h, e_h, hl⟩ ih
    have hF9 := qfStS_wf hF a f (k + 1) hs hg
    have hR : ∀ r j, r < 1000 → r ≠ 70 → r ≠ 163 → (qfStS σ a f (k + 1)) r j = σ r j := fun r j h1 h2 h3 => qfStS_r σ a f _ j h2 h3 (by omega)
    have hf9 : f < (qfStS σ a f (k + 1)) 0 3 := by rw [hR 0 3 (by decide) (by decide) (by decide)]; exact hf
    have ha9 : a < (qfStS σ a f (k + 1)) 0 2 := by rw [hR 0 2 (by decide) (by decide) (by decide)]; exact ha
    rw [show nI (k + 1) - nI 1 = nI k from pk_sub (by omega)] at hl
    have hk : k < σ 0 0 := e_h
    have hk9 : k < (qfStS σ a f (k + 1)) 0 0 := by rw [hR 0 0 (by decide) (by decide) (by decide)]; exact hk
    refine lv_iload_n hx hb dX7_standOnCounted_15 rfl (lv_at hl 3 rfl) ?_
    refine q_lt0 (tgt := 92) hx hb (by omega) dX7_standOnCounted_16 (by decide) (fun g1 => g1.elim) (fun g1 => ?_)
    refine lv_aload_n hx hb dX7_standOnCounted_19 rfl (lv_at hl 0 rfl) ?_
    refine q_get (C := RX7) (T := TX7) (N := 7) hx hb hts iRX7 hown hC.1 (hW.to qLV0) rfl 0 (by decide) (hts (.fieldLink RX7 10 "LogWeave" "lineList" "Ljava/util/ArrayList;") (List.mem_of_getElem? (i := 1) (by decide +kernel))) rfl (v := .ref (ad 1 0)) rfl dX7_standOnCounted_20 ?_
    refine lv_iload_n hx hb dX7_standOnCounted_23 rfl (lv_at hl 3 rfl) ?_
    refine q_v (va_runV (As := [.int (nI k)]) (rest := []) ⟨hx, hb, hml, hown, hts⟩ (m_get l G (ad 1 0) (ad 2 0) ((qfStS σ a f (k + 1)) 32 0) ((qfStS σ a f (k + 1)) 0 0) (fun i => if i < (qfStS σ a f (k + 1)) 0 0 then some (ad (4 + 2 * 0) i) else none) (.int (nI ((qfStS σ a f (k + 1)) 16 0))) k (ad 4 k) hk9 (hF9.c 0) (hF9.1 _ _) (if_pos hk9)) (cwV 1 hts gX7_standOnCounted_Jx4a65c_get_915e3 rfl rfl rfl (by decide +kernel) ⟨Nat.le_of_ble_eq_true rfl, Nat.le_of_ble_eq_true rfl⟩) ⟨qO.blind, qrecv hC (hW.to (qLV1 (j := 0) (by decide))) rfl, qO.pre hC (hW.list hF9 (J := 0) (by decide) hk9)⟩ rfl rfl hl.1 rfl (lv_room (Nat.le_of_ble_eq_true rfl)) dX7_standOnCounted_24 ⟨Nat.le_of_ble_eq_true rfl, Nat.le_of_ble_eq_true rfl⟩) hS (fun _ h => h.elim) (fun locs hS => ?_)
    refine va_castS hx hb hown (hts (.classLink RX7 74 "LogWeave$Line") (List.mem_of_getElem? (i := 2) (by decide +kernel))) (hC.1.1 6 _ rfl).2 (qrecv hC (hW.to (qLV4 hk9)) rfl) dX7_standOnCounted_27 ?_
    refine lv_astore (lv' := [(4, .ref (ad 4 k)), (0, .ref (ad 0 0)), (1, .ref (ad 10 f)), (2, .ref (ad 8 a)), (3, .int (nI k))]) hx hb dX7_standOnCounted_30 hl (by decide) rfl (fun ls hl => ?_)
    refine lv_aload hx hb dX7_standOnCounted_32 (lv_at hl 0 rfl) ?_
    refine lv_aload_n hx hb dX7_standOnCounted_34 rfl (lv_at hl 3 rfl) ?_
    refine q_getN (C := RX0) (T := TX0) (N := 9) hx hb hts iRX0 hown hC.1 (hW.to (qLV8 ha9)) rfl 3 (by decide) (va_Nw.use rfl (qf_RX7_361 hC)) rfl (v := .int (nI ((qfStS σ a f (k + 1)) 129 a))) rfl dX7_standOnCounted_35 ?_
    refine lv_aload_n hx hb dX7_standOnCounted_38 rfl (lv_at hl 1 rfl) ?_
    refine q_get (C := RX7) (T := TX7) (N := 7) hx hb hts iRX7 hown hC.1 (hW.to qLV0) rfl 6 (by decide) (hts (.fieldLink RX7 76 "LogWeave" "now" "I") (List.mem_of_getElem? (i := 3) (by decide +kernel))) rfl (v := .int (nI ((qfStS σ a f (k + 1)) 1 0))) rfl dX7_standOnCounted_39 ?_
    refine q_v (va_runVN (C := RX3) (As := [.int (nI ((qfStS σ a f (k + 1)) 129 a)), .int (nI ((qfStS σ a f (k + 1)) 1 0))]) (rest := []) ⟨hx, hb, hml, hown, hts⟩ (m_cameWithin l G (ad 4 k) _ _ _ _ _ _ _ ((qfStS σ a f (k + 1)) 67 k) ((qfStS σ a f (k + 1)) 129 a) ((qfStS σ a f (k + 1)) 1 0) (hF9.came hk9) (hF9.1 _ _) (hF9.1 _ _)) ⟨va_cnB 2 hts gX7_standOnCounted_X3_cameWithin_n364 rfl rfl rfl (qm_RX7_364 hC) (hts (.initialized RX3) (List.mem_of_getElem? (i := 28) (by decide +kernel))) (by decide +kernel) ⟨Nat.le_of_ble_eq_true rfl, Nat.le_of_ble_eq_true rfl⟩, (hts (.instanceMethod yX3_cameWithin) (List.mem_of_getElem? (i := 27) (by decide +kernel))), (hts (.selects RX3 yX3_cameWithin yX3_cameWithin) (List.mem_of_getElem? (i := 29) (by decide +kernel)))⟩ ⟨qO.blind, qrecv hC (hW.to (qLV4 hk9)) rfl, qO.pre hC (va_P1 (hW.to (qLV4 hk9)))⟩ rfl rfl hl.1 rfl (lv_room (Nat.le_of_ble_eq_true rfl)) dX7_standOnCounted_42 ⟨Nat.le_of_ble_eq_true rfl, Nat.le_of_ble_eq_true rfl⟩) hS (fun _ h => h.elim) (fun locs hS => ?_)
    refine q_ne0 (tgt := 49) hx hb q_31B dX7_standOnCounted_45 (by decide) (fun c2 => ?_) (fun c2 => ?_)
    · skip
      refine lv_aload_n hx hb dX7_standOnCounted_49 rfl (lv_at hl 3 rfl) ?_
      refine lv_aload hx hb dX7_standOnCounted_50 (lv_at hl 0 rfl) ?_
      refine lv_aload_n hx hb dX7_standOnCounted_52 rfl (lv_at hl 1 rfl) ?_
      refine q_get (C := RX7) (T := TX7) (N := 7) hx hb hts iRX7 hown hC.1 (hW.to qLV0) rfl 6 (by decide) (hts (.fieldLink RX7 76 "LogWeave" "now" "I") (List.mem_of_getElem? (i := 3) (by decide +kernel))) rfl (v := .int (nI ((qfStS σ a f (k + 1)) 1 0))) rfl dX7_standOnCounted_53 ?_
      refine q_v (va_runVN (C := RX0) (As := [.ref (ad 4 k), .int (nI ((qfStS σ a f (k + 1)) 1 0))]) (rest := []) ⟨hx, hb, hml, hown, hts⟩ (m_counts l G es A (qfStS σ a f (k + 1)) ad hF9 a ha9 k hk9) ⟨va_cnB 2 hts gX7_standOnCounted_X0_counts_n345 rfl rfl rfl (qm_RX7_345 hC) (hts (.initialized RX0) (List.mem_of_getElem? (i := 33) (by decide +kernel))) (by decide +kernel) ⟨Nat.le_of_ble_eq_true rfl, Nat.le_of_ble_eq_true rfl⟩, (hts (.instanceMethod yX0_counts) (List.mem_of_getElem? (i := 32) (by decide +kernel))), (hts (.selects RX0 yX0_counts yX0_counts) (List.mem_of_getElem? (i := 34) (by decide +kernel)))⟩ ⟨qR.blind, qrecv hC (hW.to (qLV8 ha9)) rfl, qR.pre hC hW⟩ rfl rfl hl.1 rfl (lv_room (Nat.le_of_ble_eq_true rfl)) dX7_standOnCounted_56 ⟨Nat.le_of_ble_eq_true rfl, Nat.le_of_ble_eq_true rfl⟩) hS (fun _ h => h.elim) (fun locs hS => ?_)
      have hcq : qcn (qfStS σ a f (k + 1)) a k ↔ qcn σ a k := by have hp := hF.plc ha; unfold qcn qcw qtk; rw [hR 146 a (by decide) (by decide) (by decide), hR 69 k (by decide) (by decide) (by decide), hR 1 0 (by decide) (by decide) (by decide), hR 67 k (by decide) (by decide) (by decide), hR 129 a (by decide) (by decide) (by decide), hR 64 k (by decide) (by decide) (by decide), hR 65 k (by decide) (by decide) (by decide), hR 144 a (by decide) (by decide) (by decide), hR 145 a (by decide) (by decide) (by decide), hR 147 a (by decide) (by decide) (by decide), hR (80 + (σ 146 a - 1)) k (by omega) (by omega) (by omega)]
      refine q_eq0 (tgt := 86) hx hb q_31B dX7_standOnCounted_59 (by decide) (fun c3 => ?_) (fun c3 => ?_)
      · skip
        refine lv_iinc (v := nI k - nI 1) (lv' := [(3, .int (nI k - nI 1)), (4, .ref (ad 4 k)), (0, .ref (ad 0 0)), (1, .ref (ad 10 f)), (2, .ref (ad 8 a))]) hx hb dX7_standOnCounted_86 hl (k := 4) rfl (q_dec _) (by decide) rfl (fun ls hl => ?_)
        refine lv_goto (tgt := 15) hx hb dX7_standOnCounted_89 (by decide) ?_
        exact ih _ _ ls ⟨(by rw [qfStS_no (Nat.le_succ k) (fun l h1 h2 => by rw [show l = k by omega]; exact fun z => (by rw [qB_t (hcq.mpr z.1)] at c3; exact absurd c3 (by decide)))]; exact hW), hS, (), Nat.le_of_lt hk, lv_sub hl [2, 3, 4, 0] rfl⟩
      · skip
        have c4 : qcn σ a k := hcq.mp (Classical.byContradiction fun h => c3 (qB_f h))
        refine lv_aload_n hx hb dX7_standOnCounted_62 rfl (lv_at hl 2 rfl) ?_
        refine lv_iload_n hx hb dX7_standOnCounted_63 rfl (lv_at hl 4 rfl) ?_
        refine q_v (va_runVN (C := RX2) (As := [.int (nI k)]) (rest := []) ⟨hx, hb, hml, hown, hts⟩ (m_hasLine l G es A (qfStS σ a f (k + 1)) ad hF9 f hf9 k (by omega)) ⟨va_cnB 1 hts gX7_standOnCounted_X2_hasLine_n239 rfl rfl rfl (qm_RX7_239 hC) (hts (.initialized RX2) (List.mem_of_getElem? (i := 54) (by decide +kernel))) (by decide +kernel) ⟨Nat.le_of_ble_eq_true rfl, Nat.le_of_ble_eq_true rfl⟩, (hts (.instanceMethod yX2_hasLine) (List.mem_of_getElem? (i := 53) (by decide +kernel))), (hts (.selects RX2 yX2_hasLine yX2_hasLine) (List.mem_of_getElem? (i := 55) (by decide +kernel)))⟩ ⟨qR.blind, qrecv hC (hW.to (qLV10 hf9)) rfl, qR.pre hC hW⟩ rfl rfl hl.1 rfl (lv_room (Nat.le_of_ble_eq_true rfl)) dX7_standOnCounted_64 ⟨Nat.le_of_ble_eq_true rfl, Nat.le_of_ble_eq_true rfl⟩) hS (fun _ h => h.elim) (fun locs hS => ?_)
        refine q_ne0 (tgt := 86) hx hb q_31B dX7_standOnCounted_67 (by decide) (fun c5 => ?_) (fun c5 => ?_)
        · skip
          refine lv_iinc (v := nI k - nI 1) (lv' := [(3, .int (nI k - nI 1)), (4, .ref (ad 4 k)), (0, .ref (ad 0 0)), (1, .ref (ad 10 f)), (2, .ref (ad 8 a))]) hx hb dX7_standOnCounted_86 hl (k := 4) rfl (q_dec _) (by decide) rfl (fun ls hl => ?_)
          refine lv_goto (tgt := 15) hx hb dX7_standOnCounted_89 (by decide) ?_
          exact ih _ _ ls ⟨(by rw [qfStS_no (Nat.le_succ k) (fun l h1 h2 => by rw [show l = k by omega]; exact fun z => (z.2 (by rw [← qfStS_on (σ := σ) (a := a) (f := f) (k := k)]; exact Classical.byContradiction fun h => c5 (qB_f h))))]; exact hW), hS, (), Nat.le_of_lt hk, lv_sub hl [2, 3, 4, 0] rfl⟩
        · skip
          have c6 : σ (1000 + f) k ≠ 1 := fun z => by rw [qfStS_on, qB_t z] at c5; exact absurd c5 (by decide)
          refine lv_aload_n hx hb dX7_standOnCounted_70 rfl (lv_at hl 2 rfl) ?_
          refine lv_iload_n hx hb dX7_standOnCounted_71 rfl (lv_at hl 4 rfl) ?_
          refine q_wn (va_runVN (C := RX2) (As := [.int (nI k)]) (rest := []) ⟨hx, hb, hml, hown, hts⟩ (m_putLine l G es A (qfStS σ a f (k + 1)) ad hF9 f hf9 k (by omega) (by rw [qfStS_on]; exact c6)) ⟨va_cnB 1 hts gX7_standOnCounted_X2_putLine_n368 rfl rfl rfl (qm_RX7_368 hC) (hts (.initialized RX2) (List.mem_of_getElem? (i := 54) (by decide +kernel))) (by decide +kernel) ⟨Nat.le_of_ble_eq_true rfl, Nat.le_of_ble_eq_true rfl⟩, (hts (.instanceMethod yX2_putLine) (List.mem_of_getElem? (i := 58) (by decide +kernel))), (hts (.selects RX2 yX2_putLine yX2_putLine) (List.mem_of_getElem? (i := 59) (by decide +kernel)))⟩ ⟨qW.blind, qrecv hC (hW.to (qLV10 hf9)) rfl, qW.pre hC hW hZ hS (fun _ h => h) (fun q h => hA q (Nat.le_trans hS.1 h))⟩ rfl rfl hl.1 rfl (lv_room (Nat.le_of_ble_eq_true rfl)) dX7_standOnCounted_72 ⟨Nat.le_of_ble_eq_true rfl, Nat.le_of_ble_eq_true rfl⟩) hS (fun _ h => h) (fun _ h => h) (fun H locs hW hz hk2 hS => ?_)
          have hR2 : ∀ r j, r ≠ 163 → r ≠ 1000 + f → (qfPl (qfStS σ a f (k + 1)) f k) r j = (qfStS σ a f (k + 1)) r j := fun r j h1 h2 => by unfold qfPl; rw [qup_k h1, qset_k h2]
          have hk8 : k < (qfPl (qfStS σ a f (k + 1)) f k) 0 0 := by rw [hR2 0 0 (by decide) (by omega)]; exact hk9
          refine lv_aload hx hb dX7_standOnCounted_75 (lv_at hl 0 rfl) ?_
          refine lv_dup hx hb dX7_standOnCounted_77 rfl ?_
          refine q_getN (C := RX3) (T := TX3) (N := 8) hx hb hts iRX3 hown hC.1 (hW.to (qLV4 hk8)) rfl 7 (by decide) (va_Nw.use rfl (qf_RX7_263 hC)) rfl (v := .int (nI ((qfPl (qfStS σ a f (k + 1)) f k) 70 k))) rfl dX7_standOnCounted_78 ?_
          refine q_ti (y := nI (σ 70 k)) (by rw [hR2 70 k (by decide) (by omega), qfStS_70]) ?_
          refine lv_iconst (v := nI 1) hx hb dX7_standOnCounted_81 (by decide) ?_
          refine lv_iadd hx hb dX7_standOnCounted_82 ?_
          refine q_ti (nI_add (σ 70 k) 1) ?_
          refine q_putN (C := RX3) (T := TX3) (N := 8) (ty := .int) (v := .int (nI ((σ 70 k) + 1))) hx hb hts iRX3 tyX3 tyX3_ok nmX3 hown hC.1 (hW.to (qLV4 hk8)) (hW.in (qLV4 hk8)) hS rfl 7 (by decide) (va_Nw.use rfl (qf_RX7_263 hC)) rfl rfl (by decide +kernel) rfl rfl (Nat.le_of_ble_eq_true rfl) dX7_standOnCounted_83 (fun H locs hat hsz hoq hS => ?_)
          have hW := hW.up 70 k ((σ 70 k) + 1) (by decide) (by decide) (qLV4 hk8) ((qLV4 (G := G) (es := es) (σ := qup (qfPl (qfStS σ a f (k + 1)) f k) 70 k ((σ 70 k) + 1)) (ad := ad) hk8).trans (by rw [qup_s]; rfl)) hat hoq
          refine lv_iinc (v := nI k - nI 1) (lv' := [(3, .int (nI k - nI 1)), (4, .ref (ad 4 k)), (0, .ref (ad 0 0)), (1, .ref (ad 10 f)), (2, .ref (ad 8 a))]) hx hb dX7_standOnCounted_86 hl (k := 4) rfl (q_dec _) (by decide) rfl (fun ls hl => ?_)
          refine lv_goto (tgt := 15) hx hb dX7_standOnCounted_89 (by decide) ?_
          exact ih _ _ ls ⟨(by rw [qfStS_step hk ⟨c4, c6⟩]; exact hW), hS, (), Nat.le_of_lt hk, lv_sub hl [2, 3, 4, 0] rfl⟩
    · skip
      have c9 : ¬ σ 1 0 - σ 67 k < σ 129 a := fun z => by rw [hR 1 0 (by decide) (by decide) (by decide), hR 67 k (by decide) (by decide) (by decide), hR 129 a (by decide) (by decide) (by decide), qB_t z] at c2; exact absurd c2 (by decide)
      exact W.vret hx hb hr (fun t ht _ => ⟨rfl, by rw [ht]; exact (by unfold qfSt; rw [qfStS_no (Nat.zero_le (k + 1)) (fun l _ hl z => c9 (by have h1 := hm l k (by omega) hk; have h2 : σ 1 0 - σ 67 l < σ 129 a := z.1.2.1; omega))]; exact hW), hS.F ht⟩) hS.2.2 dX7_standOnCounted_48
