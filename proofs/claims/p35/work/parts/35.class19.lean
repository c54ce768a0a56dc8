set_option maxHeartbeats 4000000 in
set_option maxRecDepth 100000 in
theorem m_takesX (l : Launch) (G : QG) (es : Nat) (A : Nat → Prop) (σ ad : QSt) (hF : qWF σ) (xa s0 r0 P w0 : Nat) (hP : P ≤ 3) (hs : s0 < 1073741824) (hr0 : r0 < 1073741824) (hw : w0 < 1073741824) (l0 : Nat) (hl0 : l0 < σ 0 0) : Met l yX1_takes wsX1_takes ({ frames := 1, cells := 0, slots := 0, locals := 21 } : Room) (qR1 G es A σ ad (xa, (.inr (4, [.int (nI s0), .int (nI r0), .int (nI P - 1), .int (nI w0)]))) [.ref (xa), .ref (ad 4 l0)]) (qPV (some (.int (nI (qB (qtk σ s0 r0 P w0 l0)))))) 0 0 (fun _ => False) := by
  refine Met.ofW (cc := cX1_takes) (maxL := 2) (ret := (some .boolean)) (by decide) rfl ?_
  intro p e s m args below meth c s₁ B hml hv
  obtain ⟨rfl, hC, hW, hx9⟩ := hv
  have hx := B.exec
  have hb := B.bytes
  have hr := B.returns
  have hts := atoms_spec (ws := wsX1_takes) B.pre
  have hown : s.vm.findClass RX1 = some m.cls := findClass_of_methodNamed B.named
  have hlocks := B.notSynchronized
  have hB := hF.1
  have hS : va_S (fun _ => False) s.heap s.heap [] := va_S.rf
  have hl := lv_entry ([.ref (xa), .ref (ad 4 l0)]) (n := 2) (Nat.le_of_ble_eq_true rfl)
  rw [lg_entry_eq]
  generalize (lg_sl ([.ref (xa), .ref (ad 4 l0)]) ++ List.replicate (2 - (lg_sl ([.ref (xa), .ref (ad 4 l0)])).length) Slot.unset).toArray = ls at hl ⊢
  have hl : lv_has ls 2 [(0, .ref (xa)), (1, .ref (ad 4 l0))] := hl
  have iRX1 : ∀ w ∈ wsX10, w ∈ wsX1_takes := by decide +kernel
  have iRX3 : ∀ w ∈ wsX30, w ∈ wsX1_takes := by decide +kernel
  have iRX6 : ∀ w ∈ wsX60, w ∈ wsX1_takes := by decide +kernel
  refine lv_aload_n hx hb dX1_takes_0 rfl (lv_at hl 1 rfl) ?_
  refine q_getN (C := RX3) (T := TX3) (N := 8) hx hb hts iRX3 hown hC.1 (hW.to (qLV4 hl0)) rfl 0 (by decide) (va_Nw.use rfl (qf_RX1_24 hC)) rfl (v := .int (nI (σ 64 l0))) rfl dX1_takes_1 ?_
  refine lv_aload_n hx hb dX1_takes_4 rfl (lv_at hl 0 rfl) ?_
  refine q_get (C := RX1) (T := TX1) (N := 4) hx hb hts iRX1 hown hC.1 hx9 rfl 0 (by decide) (hts (.fieldLink RX1 9 "LogWeave$Filter" "source" "I") (List.mem_of_getElem? (i := 1) (by decide +kernel))) rfl (v := .int (nI s0)) rfl dX1_takes_5 ?_
  refine q_ne (tgt := 52) hx hb (q31 (hB _ _)) (q31 hs) dX1_takes_8 (by decide) (fun c1 => ?_) (fun c1 => ?_)
  · skip
    refine lv_iconst (v := nI 0) hx hb dX1_takes_52 (by decide) ?_
    exact W.zret (v := nI 0) hx hb hr rfl (fun t ht _ => ⟨by rw [qB_f (fun h => c1 h.1)], ht⟩) hS.2.2 dX1_takes_53
  · skip
    refine lv_aload_n hx hb dX1_takes_11 rfl (lv_at hl 1 rfl) ?_
    refine q_getN (C := RX3) (T := TX3) (N := 8) hx hb hts iRX3 hown hC.1 (hW.to (qLV4 hl0)) rfl 1 (by decide) (va_Nw.use rfl (qf_RX1_27 hC)) rfl (v := .int (nI (σ 65 l0))) rfl dX1_takes_12 ?_
    refine lv_aload_n hx hb dX1_takes_15 rfl (lv_at hl 0 rfl) ?_
    refine q_get (C := RX1) (T := TX1) (N := 4) hx hb hts iRX1 hown hC.1 hx9 rfl 1 (by decide) (hts (.fieldLink RX1 15 "LogWeave$Filter" "leastRank" "I") (List.mem_of_getElem? (i := 2) (by decide +kernel))) rfl (v := .int (nI r0)) rfl dX1_takes_16 ?_
    refine q_lt (tgt := 52) hx hb (q31 (hB _ _)) (q31 hr0) dX1_takes_19 (by decide) (fun c2 => ?_) (fun c2 => ?_)
    · skip
      refine lv_iconst (v := nI 0) hx hb dX1_takes_52 (by decide) ?_
      exact W.zret (v := nI 0) hx hb hr rfl (fun t ht _ => ⟨by rw [qB_f (fun h => absurd h.2.1 (by omega))], ht⟩) hS.2.2 dX1_takes_53
    · skip
      refine lv_aload_n hx hb dX1_takes_22 rfl (lv_at hl 0 rfl) ?_
      refine q_get (C := RX1) (T := TX1) (N := 4) hx hb hts iRX1 hown hC.1 hx9 rfl 2 (by decide) (hts (.fieldLink RX1 18 "LogWeave$Filter" "place" "I") (List.mem_of_getElem? (i := 3) (by decide +kernel))) rfl (v := .int (nI P - 1)) rfl dX1_takes_23 ?_
      refine lv_iconst (v := -1) hx hb dX1_takes_26 (by decide) ?_
      refine lv_icmp_eq (tgt := 48) hx hb dX1_takes_27 (by decide) (fun c3 => ?_) (fun c3 => ?_)
      · skip
        refine lv_iconst (v := nI 1) hx hb dX1_takes_48 (by decide) ?_
        refine lv_goto (tgt := 53) hx hb dX1_takes_49 (by decide) ?_
        exact W.zret (v := nI 1) hx hb hr rfl (fun t ht _ => ⟨by rw [qB_t ⟨c1, c2, Or.inl ((q_m0 (by omega)).mp c3)⟩], ht⟩) hS.2.2 dX1_takes_53
      · skip
        have hP0 : P ≠ 0 := fun z => c3 ((q_m0 (by omega)).mpr z)
        refine lv_aload_n hx hb dX1_takes_30 rfl (lv_at hl 1 rfl) ?_
        refine q_getN (C := RX3) (T := TX3) (N := 8) hx hb hts iRX3 hown hC.1 (hW.to (qLV4 hl0)) rfl 2 (by decide) (va_Nw.use rfl (qf_RX1_30 hC)) rfl (v := .ref (ad 5 l0)) rfl dX1_takes_31 ?_
        refine lv_aload_n hx hb dX1_takes_34 rfl (lv_at hl 0 rfl) ?_
        refine q_get (C := RX1) (T := TX1) (N := 4) hx hb hts iRX1 hown hC.1 hx9 rfl 2 (by decide) (hts (.fieldLink RX1 18 "LogWeave$Filter" "place" "I") (List.mem_of_getElem? (i := 3) (by decide +kernel))) rfl (v := .int (nI P - 1)) rfl dX1_takes_35 ?_
        refine q_ti (q_pred hP0) ?_
        refine q_v (va_runVN (C := RX6) (As := [.int (nI (P - 1))]) (rest := []) ⟨hx, hb, hml, hown, hts⟩ (m_at l G (ad 5 l0) (fun k => nI (σ (80 + k) l0)) (P - 1) (by omega)) ⟨va_cnB 1 hts gX1_takes_X6_at_n34 rfl rfl rfl (qm_RX1_34 hC) (hts (.initialized RX6) (List.mem_of_getElem? (i := 6) (by decide +kernel))) (by decide +kernel) ⟨Nat.le_of_ble_eq_true rfl, Nat.le_of_ble_eq_true rfl⟩, (hts (.instanceMethod yX6_at) (List.mem_of_getElem? (i := 5) (by decide +kernel))), (hts (.selects RX6 yX6_at yX6_at) (List.mem_of_getElem? (i := 7) (by decide +kernel)))⟩ ⟨qO.blind, qrecv hC (hW.to (qLV5 hl0)) rfl, qO.pre hC (va_P1 (hW.to (qLV5 hl0)))⟩ rfl rfl hl.1 rfl (lv_room (Nat.le_of_ble_eq_true rfl)) dX1_takes_38 ⟨Nat.le_of_ble_eq_true rfl, Nat.le_of_ble_eq_true rfl⟩) hS (fun _ h => h.elim) (fun locs hS => ?_)
        refine lv_aload_n hx hb dX1_takes_41 rfl (lv_at hl 0 rfl) ?_
        refine q_get (C := RX1) (T := TX1) (N := 4) hx hb hts iRX1 hown hC.1 hx9 rfl 3 (by decide) (hts (.fieldLink RX1 21 "LogWeave$Filter" "word" "I") (List.mem_of_getElem? (i := 4) (by decide +kernel))) rfl (v := .int (nI w0)) rfl dX1_takes_42 ?_
        refine q_ne (tgt := 52) hx hb (q31 (hB _ _)) (q31 hw) dX1_takes_45 (by decide) (fun c4 => ?_) (fun c4 => ?_)
        · skip
          refine lv_iconst (v := nI 0) hx hb dX1_takes_52 (by decide) ?_
          exact W.zret (v := nI 0) hx hb hr rfl (fun t ht _ => ⟨by rw [qB_f (fun h => h.2.2.elim hP0 c4)], ht⟩) hS.2.2 dX1_takes_53
        · skip
          refine lv_iconst (v := nI 1) hx hb dX1_takes_48 (by decide) ?_
          refine lv_goto (tgt := 53) hx hb dX1_takes_49 (by decide) ?_
          exact W.zret (v := nI 1) hx hb hr rfl (fun t ht _ => ⟨by rw [qB_t ⟨c1, c2, Or.inr c4⟩], ht⟩) hS.2.2 dX1_takes_53
set_option maxHeartbeats 4000000 in
set_option maxRecDepth 100000 in
theorem m_archivedLinesX (l : Launch) (G : QG) (es : Nat) (A : Nat → Prop) (σ ad : QSt) (hF : qWF σ) (xa s0 r0 P w0 : Nat) (hP : P ≤ 3) (hs : s0 < 1073741824) (hr0 : r0 < 1073741824) (hw : w0 < 1073741824) : Met l yX7_archivedLines wsX7_archivedLines ({ frames := 3, cells := 0, slots := 0, locals := 64 } : Room) (qR1 G es A σ ad (xa, (.inr (4, [.int (nI s0), .int (nI r0), .int (nI P - 1), .int (nI w0)]))) [.ref (ad 0 0), .ref (xa)]) (qPV (some (.int (nI (qarch σ s0 r0 P w0))))) 0 0 (fun _ => False) := by
  refine Met.ofW (cc := cX7_archivedLines) (maxL := 5) (ret := (some .int)) (by decide) rfl ?_
  intro p e s m args below meth c s₁ B hml hv
  obtain ⟨rfl, hC, hW, hx9⟩ := hv
  have hx := B.exec
  have hb := B.bytes
  have hr := B.returns
  have hts := atoms_spec (ws := wsX7_archivedLines) B.pre
  have hown : s.vm.findClass RX7 = some m.cls := findClass_of_methodNamed B.named
  have hlocks := B.notSynchronized
  have hB := hF.1
  have hn := hF.n
  have hS : va_S (fun _ => False) s.heap s.heap [] := va_S.rf
  have hl := lv_entry ([.ref (ad 0 0), .ref (xa)]) (n := 5) (Nat.le_of_ble_eq_true rfl)
  rw [lg_entry_eq]
  generalize (lg_sl ([.ref (ad 0 0), .ref (xa)]) ++ List.replicate (5 - (lg_sl ([.ref (ad 0 0), .ref (xa)])).length) Slot.unset).toArray = ls at hl ⊢
  have hl : lv_has ls 5 [(0, .ref (ad 0 0)), (1, .ref (xa))] := hl
  have iRX7 : ∀ w ∈ wsX70, w ∈ wsX7_archivedLines := by decide +kernel
  have iRX3 : ∀ w ∈ wsX30, w ∈ wsX7_archivedLines := by decide +kernel
  refine lv_iconst (v := nI 0) hx hb dX7_archivedLines_0 (by decide) ?_
  refine lv_istore_n (lv' := [(2, .int (nI 0)), (0, .ref (ad 0 0)), (1, .ref (xa))]) hx hb dX7_archivedLines_1 rfl hl (by decide) rfl (fun ls hl => ?_)
  refine lv_iconst (v := nI 0) hx hb dX7_archivedLines_2 (by decide) ?_
  refine lv_istore_n (lv' := [(3, .int (nI 0)), (2, .int (nI 0)), (0, .ref (ad 0 0)), (1, .ref (xa))]) hx hb dX7_archivedLines_3 rfl hl (by decide) rfl (fun ls hl => ?_)
  refine q_up (σ 0 0) (fun i H locs ls => H = s.heap ∧ va_S (fun _ => False) s.heap H locs ∧ ∃ (v : Nat), (v = qsum (fun l => qB (σ 69 l = 97 ∧ qtk σ s0 r0 P w0 l)) i) ∧ lv_has ls 5 [(0, .ref (ad 0 0)), (1, .ref (xa)), (2, .int (nI v)), (3, .int (nI i))]) ?_ ?_ (i0 := 0) (Nat.zero_le _) ⟨rfl, hS, 0, rfl, lv_sub hl [2, 3, 1, 0] rfl⟩
  · rintro _ locs ls ⟨rfl, hS, v, e_v, hl⟩
    refine lv_iload_n hx hb dX7_archivedLines_4 rfl (lv_at hl 3 rfl) ?_
    refine lv_aload_n hx hb dX7_archivedLines_5 rfl (lv_at hl 0 rfl) ?_
    refine q_get (C := RX7) (T := TX7) (N := 7) hx hb hts iRX7 hown hC.1 (hW.to qLV0) rfl 0 (by decide) (hts (.fieldLink RX7 10 "LogWeave" "lineList" "Ljava/util/ArrayList;") (List.mem_of_getElem? (i := 1) (by decide +kernel))) rfl (v := .ref (ad 1 0)) rfl dX7_archivedLines_6 ?_
    refine q_v (va_runV (As := []) (rest := [.int (nI (σ 0 0))]) ⟨hx, hb, hml, hown, hts⟩ (m_size l G (ad 1 0) _ _ (nI (σ 0 0))) (cwV 0 hts gX7_archivedLines_Jx4a65c_size_8abf5 rfl rfl rfl (by decide +kernel) ⟨Nat.le_of_ble_eq_true rfl, Nat.le_of_ble_eq_true rfl⟩) ⟨qO.blind, qrecv hC (hW.to (qLV1 (j := 0) (by decide))) rfl, qO.pre hC (hW.lob (by decide))⟩ rfl rfl hl.1 rfl (lv_room (Nat.le_of_ble_eq_true rfl)) dX7_archivedLines_9 ⟨Nat.le_of_ble_eq_true rfl, Nat.le_of_ble_eq_true rfl⟩) hS (fun _ h => h.elim) (fun locs hS => ?_)
    refine q_ge (tgt := 56) hx hb (q31 (hB _ _)) (q31 (hB _ _)) dX7_archivedLines_12 (by decide) (fun g1 => ?_) (fun g1 => (by omega))
    refine lv_iload_n hx hb dX7_archivedLines_56 rfl (lv_at hl 2 rfl) ?_
    exact W.iret hx hb hr (fun t ht _ => ⟨by rw [e_v]; rfl, ht⟩) hS.2.2 dX7_archivedLines_57
  · rintro i _ locs ls hi ⟨rfl, hS, v, e_v, hl⟩ ih
    refine lv_iload_n hx hb dX7_archivedLines_4 rfl (lv_at hl 3 rfl) ?_
    refine lv_aload_n hx hb dX7_archivedLines_5 rfl (lv_at hl 0 rfl) ?_
    refine q_get (C := RX7) (T := TX7) (N := 7) hx hb hts iRX7 hown hC.1 (hW.to qLV0) rfl 0 (by decide) (hts (.fieldLink RX7 10 "LogWeave" "lineList" "Ljava/util/ArrayList;") (List.mem_of_getElem? (i := 1) (by decide +kernel))) rfl (v := .ref (ad 1 0)) rfl dX7_archivedLines_6 ?_
    refine q_v (va_runV (As := []) (rest := [.int (nI i)]) ⟨hx, hb, hml, hown, hts⟩ (m_size l G (ad 1 0) _ _ (nI (σ 0 0))) (cwV 0 hts gX7_archivedLines_Jx4a65c_size_8abf5 rfl rfl rfl (by decide +kernel) ⟨Nat.le_of_ble_eq_true rfl, Nat.le_of_ble_eq_true rfl⟩) ⟨qO.blind, qrecv hC (hW.to (qLV1 (j := 0) (by decide))) rfl, qO.pre hC (hW.lob (by decide))⟩ rfl rfl hl.1 rfl (lv_room (Nat.le_of_ble_eq_true rfl)) dX7_archivedLines_9 ⟨Nat.le_of_ble_eq_true rfl, Nat.le_of_ble_eq_true rfl⟩) hS (fun _ h => h.elim) (fun locs hS => ?_)
    refine q_ge (tgt := 56) hx hb (by omega) (q31 (hB _ _)) dX7_archivedLines_12 (by decide) (fun g2 => (by omega)) (fun g2 => ?_)
    refine lv_aload_n hx hb dX7_archivedLines_15 rfl (lv_at hl 0 rfl) ?_
    refine q_get (C := RX7) (T := TX7) (N := 7) hx hb hts iRX7 hown hC.1 (hW.to qLV0) rfl 0 (by decide) (hts (.fieldLink RX7 10 "LogWeave" "lineList" "Ljava/util/ArrayList;") (List.mem_of_getElem? (i := 1) (by decide +kernel))) rfl (v := .ref (ad 1 0)) rfl dX7_archivedLines_16 ?_
    refine lv_iload_n hx hb dX7_archivedLines_19 rfl (lv_at hl 3 rfl) ?_
    refine q_v (va_runV (As := [.int (nI i)]) (rest := []) ⟨hx, hb, hml, hown, hts⟩ (m_get l G (ad 1 0) (ad 2 0) (σ 32 0) (σ 0 0) (fun i => if i < σ 0 0 then some (ad (4 + 2 * 0) i) else none) (.int (nI (σ 16 0))) i (ad 4 i) hi (hF.c 0) (hB _ _) (if_pos hi)) (cwV 1 hts gX7_archivedLines_Jx4a65c_get_915e3 rfl rfl rfl (by decide +kernel) ⟨Nat.le_of_ble_eq_true rfl, Nat.le_of_ble_eq_true rfl⟩) ⟨qO.blind, qrecv hC (hW.to (qLV1 (j := 0) (by decide))) rfl, qO.pre hC (hW.list hF (J := 0) (by decide) hi)⟩ rfl rfl hl.1 rfl (lv_room (Nat.le_of_ble_eq_true rfl)) dX7_archivedLines_20 ⟨Nat.le_of_ble_eq_true rfl, Nat.le_of_ble_eq_true rfl⟩) hS (fun _ h => h.elim) (fun locs hS => ?_)
    refine va_castS hx hb hown (hts (.classLink RX7 74 "LogWeave$Line") (List.mem_of_getElem? (i := 2) (by decide +kernel))) (hC.1.1 6 _ rfl).2 (qrecv hC (hW.to (qLV4 hi)) rfl) dX7_archivedLines_23 ?_
    refine lv_astore (lv' := [(4, .ref (ad 4 i)), (0, .ref (ad 0 0)), (1, .ref (xa)), (2, .int (nI v)), (3, .int (nI i))]) hx hb dX7_archivedLines_26 hl (by decide) rfl (fun ls hl => ?_)
    refine lv_aload hx hb dX7_archivedLines_28 (lv_at hl 0 rfl) ?_
    refine q_getN (C := RX3) (T := TX3) (N := 8) hx hb hts iRX3 hown hC.1 (hW.to (qLV4 hi)) rfl 6 (by decide) (va_Nw.use rfl (qf_RX7_103 hC)) rfl (v := .int (nI (σ 69 i))) rfl dX7_archivedLines_30 ?_
    refine lv_bipush (v := nI 97) hx hb dX7_archivedLines_33 (by decide) ?_
    refine q_ne (tgt := 50) hx hb (q31 (hB _ _)) (by decide) dX7_archivedLines_35 (by decide) (fun c2 => ?_) (fun c2 => ?_)
    · skip
      refine lv_iinc (v := nI (i + 1)) (lv' := [(3, .int (nI (i + 1))), (4, .ref (ad 4 i)), (0, .ref (ad 0 0)), (1, .ref (xa)), (2, .int (nI v))]) hx hb dX7_archivedLines_50 hl (k := 4) rfl (nI_1 i) (by decide) rfl (fun ls hl => ?_)
      refine lv_goto (tgt := 4) hx hb dX7_archivedLines_53 (by decide) ?_
      exact ih _ locs ls ⟨rfl, hS, v, by rw [e_v, qsum, qB_f (fun h => c2 h.1)]; rfl, lv_sub hl [2, 3, 4, 0] rfl⟩
    · skip
      refine lv_aload_n hx hb dX7_archivedLines_38 rfl (lv_at hl 2 rfl) ?_
      refine lv_aload hx hb dX7_archivedLines_39 (lv_at hl 0 rfl) ?_
      refine q_v (va_runVN (C := RX1) (As := [.ref (ad 4 i)]) (rest := []) ⟨hx, hb, hml, hown, hts⟩ (m_takesX l G es A σ ad hF xa s0 r0 P w0 hP hs hr0 hw i hi) ⟨va_cnB 1 hts gX7_archivedLines_X1_takes_n393 rfl rfl rfl (qm_RX7_393 hC) (hts (.initialized RX1) (List.mem_of_getElem? (i := 27) (by decide +kernel))) (by decide +kernel) ⟨Nat.le_of_ble_eq_true rfl, Nat.le_of_ble_eq_true rfl⟩, (hts (.instanceMethod yX1_takes) (List.mem_of_getElem? (i := 26) (by decide +kernel))), (hts (.selects RX1 yX1_takes yX1_takes) (List.mem_of_getElem? (i := 28) (by decide +kernel)))⟩ ⟨qR1.blind, qrecv hC hx9 rfl, qR1.pre hC hW hx9⟩ rfl rfl hl.1 rfl (lv_room (Nat.le_of_ble_eq_true rfl)) dX7_archivedLines_41 ⟨Nat.le_of_ble_eq_true rfl, Nat.le_of_ble_eq_true rfl⟩) hS (fun _ h => h.elim) (fun locs hS => ?_)
      refine q_eq0 (tgt := 50) hx hb q_31B dX7_archivedLines_44 (by decide) (fun c3 => ?_) (fun c3 => ?_)
      · skip
        refine lv_iinc (v := nI (i + 1)) (lv' := [(3, .int (nI (i + 1))), (4, .ref (ad 4 i)), (0, .ref (ad 0 0)), (1, .ref (xa)), (2, .int (nI v))]) hx hb dX7_archivedLines_50 hl (k := 4) rfl (nI_1 i) (by decide) rfl (fun ls hl => ?_)
        refine lv_goto (tgt := 4) hx hb dX7_archivedLines_53 (by decide) ?_
        exact ih _ locs ls ⟨rfl, hS, v, by rw [e_v, qsum, qB_f (fun h => by rw [qB_t h.2] at c3; exact absurd c3 (by decide))]; rfl, lv_sub hl [2, 3, 4, 0] rfl⟩
      · skip
        refine lv_iinc (v := nI (v + 1)) (lv' := [(2, .int (nI (v + 1))), (4, .ref (ad 4 i)), (0, .ref (ad 0 0)), (1, .ref (xa)), (3, .int (nI i))]) hx hb dX7_archivedLines_47 hl (k := 3) rfl (nI_1 v) (by decide) rfl (fun ls hl => ?_)
        refine lv_iinc (v := nI (i + 1)) (lv' := [(3, .int (nI (i + 1))), (2, .int (nI (v + 1))), (4, .ref (ad 4 i)), (0, .ref (ad 0 0)), (1, .ref (xa))]) hx hb dX7_archivedLines_50 hl (k := 4) rfl (nI_1 i) (by decide) rfl (fun ls hl => ?_)
        refine lv_goto (tgt := 4) hx hb dX7_archivedLines_53 (by decide) ?_
        exact ih _ locs ls ⟨rfl, hS, (v + 1), by rw [e_v, qsum, qB_t ⟨c2, Classical.byContradiction fun h => c3 (qB_f h)⟩], lv_sub hl [3, 4, 1, 0] rfl⟩
