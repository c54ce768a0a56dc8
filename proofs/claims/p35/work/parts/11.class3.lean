set_option maxHeartbeats 4000000 in
set_option maxRecDepth 100000 in
theorem m_archivedLines (l : Launch) (G : QG) (es : Nat) (A : Nat → Prop) (σ ad : QSt) (hF : qWF σ) (kf a s0 r0 P w0 : Nat) (hv : qLV G es σ ad kf a = some (.inr (4, [.int (nI s0), .int (nI r0), .int (nI P - 1), .int (nI w0)]))) (hP : P ≤ 3) (hs : s0 < 1073741824) (hr0 : r0 < 1073741824) (hw : w0 < 1073741824) : Met l yX7_archivedLines wsX7_archivedLines ({ frames := 3, cells := 0, slots := 0, locals := 64 } : Room) (qR G es A σ ad [.ref (ad 0 0), .ref (ad kf a)]) (qPV (some (.int (nI (qarch σ s0 r0 P w0))))) 0 0 (fun _ => False) := by
  refine Met.ofW (cc := cX7_archivedLines) (maxL := 5) (ret := (some .int)) (by decide) rfl ?_
  intro p e s m args below meth c s₁ B hml hv
  obtain ⟨rfl, hC, hW⟩ := hv
  have hx := B.exec
  have hb := B.bytes
  have hr := B.returns
  have hts := atoms_spec (ws := wsX7_archivedLines) B.pre
  have hown : s.vm.findClass RX7 = some m.cls := findClass_of_methodNamed B.named
  have hlocks := B.notSynchronized
  have hB := hF.1
  have hn := hF.n
  have hS : va_S (fun _ => False) s.heap s.heap [] := va_S.rf
  have hl := lv_entry ([.ref (ad 0 0), .ref (ad kf a)]) (n := 5) (Nat.le_of_ble_eq_true rfl)
  rw [lg_entry_eq]
  generalize (lg_sl ([.ref (ad 0 0), .ref (ad kf a)]) ++ List.replicate (5 - (lg_sl ([.ref (ad 0 0), .ref (ad kf a)])).length) Slot.unset).toArray = ls at hl ⊢
  have hl : lv_has ls 5 [(0, .ref (ad 0 0)), (1, .ref (ad kf a))] := hl
  have iRX7 : ∀ w ∈ wsX70, w ∈ wsX7_archivedLines := by decide +kernel
  have iRX3 : ∀ w ∈ wsX30, w ∈ wsX7_archivedLines := by decide +kernel
  refine lv_iconst (v := nI 0) hx hb dX7_archivedLines_0 (by decide) ?_
  refine lv_istore_n (lv' := [(2, .int (nI 0)), (0, .ref (ad 0 0)), (1, .ref (ad kf a))]) hx hb dX7_archivedLines_1 rfl hl (by decide) rfl (fun ls hl => ?_)
  refine lv_iconst (v := nI 0) hx hb dX7_archivedLines_2 (by decide) ?_
  refine lv_istore_n (lv' := [(3, .int (nI 0)), (2, .int (nI 0)), (0, .ref (ad 0 0)), (1, .ref (ad kf a))]) hx hb dX7_archivedLines_3 rfl hl (by decide) rfl (fun ls hl => ?_)
  refine q_up (σ 0 0) (fun i H locs ls => H = s.heap ∧ va_S (fun _ => False) s.heap H locs ∧ ∃ (v : Nat), (v = qsum (fun l => qB (σ 69 l = 97 ∧ qtk σ s0 r0 P w0 l)) i) ∧ lv_has ls 5 [(0, .ref (ad 0 0)), (1, .ref (ad kf a)), (2, .int (nI v)), (3, .int (nI i))]) ?_ ?_ (i0 := 0) (Nat.zero_le _) ⟨rfl, hS, 0, rfl, lv_sub hl [2, 3, 1, 0] rfl⟩
  · rintro _ locs ls ⟨rfl, hS, v, e_v, hl⟩
    refine lv_iload_n hx hb dX7_archivedLines_4 rfl (lv_at hl 3 rfl) ?_
    refine lv_aload_n hx hb dX7_archivedLines_5 rfl (lv_at hl 0 rfl) ?_
    refine q_get (C := RX7) (T := TX7) (N := 7) hx hb hts iRX7 hown hC.1 (hW.to qLV0) rfl 0 (by decide) (hts (.fieldLink RX7 10 "LogWeave" "lineList" "Ljava/util/ArrayList;") (List.mem_of_getElem? (i := 1) (by decide +kernel))) rfl (v := .ref (ad 1 0)) rfl dX7_archivedLines_6 ?_
    refine q_v (va_runV (As := []) (rest := [.int (nI (σ 0 0))]) ⟨hx, hb, hml, hown, hts⟩ (m_size l G (ad 1 0) _ _ (nI (σ 0 0))) (cwV 0 hts gX7_archivedLines_Jx4a65c_size_8abf5 rfl rfl rfl (by decide +kernel) ⟨Nat.le_of_ble_eq_true rfl, Nat.le_of_ble_eq_true rfl⟩) ⟨qO.blind, qrecv hC (hW.to (qLV1 (j := 0) (by decide))) rfl, qO.pre hC (hW.lob (by decide))⟩ rfl rfl hl.1 rfl (lv_room (Nat.le_of_ble_eq_true rfl)) dX7_archivedLines_9 ⟨Nat.le_of_ble_eq_true rfl, Nat.le_of_ble_eq_true rfl⟩) hS (fun _ h => h.elim) (fun locs hS => ?_)
    refine q_ge (tgt := 56) hx hb (q31 (hB _ _)) (q31 (hB _ _)) dX7_archivedLines_12 (by decide) (fun g1 => ?_) (fun g1 => (by omega))
    refine lv_iload_n hx hb dX7_archivedLines_56 rfl (lv_at hl 2 rfl) ?_
    exact W.iret hx hb hr (fun t ht _ => ⟨by rw [e_v]; rfl, ht⟩) hS.2.2 dX7_archivedLines_57
  · rintro i _ locs ls hi ⟨rfl, hS, v, e_v, hl⟩ ih
    refine lv_iload_n hx hb dX7_archivedLines_4 rfl (lv_at hl 3 rfl) ?_
    refine lv_aload_n hx hb dX7_archivedLines_5 rfl (lv_at hl 0 rfl) ?_
    refine q_get (C := RX7) (T := TX7) (N := 7) hx hb hts iRX7 hown hC.1 (hW.to qLV0) rfl 0 (by decide) (hts (.fieldLink RX7 10 "LogWeave" "lineList" "Ljava/util/ArrayList;") (List.mem_of_getElem? (i := 1) (by decide +kernel))) rfl (v := .ref (ad 1 0)) rfl dX7_archivedLines_6 ?_
    refine q_v (va_runV (As := []) (rest := [.int (nI i)]) ⟨hx, hb, hml, hown, hts⟩ (m_size l G (ad 1 0) _ _ (nI (σ 0 0))) (cwV 0 hts gX7_archivedLines_Jx4a65c_size_8abf5 rfl rfl rfl (by decide +kernel) ⟨Nat.le_of_ble_eq_true rfl, Nat.le_of_ble_eq_true rfl⟩) ⟨qO.blind, qrecv hC (hW.to (qLV1 (j := 0) (by decide))) rfl, qO.pre hC (hW.lob (by decide))⟩ rfl rfl hl.1 rfl (lv_room (Nat.le_of_ble_eq_true rfl)) dX7_archivedLines_9 ⟨Nat.le_of_ble_eq_true rfl, Nat.le_of_ble_eq_true rfl⟩) hS (fun _ h => h.elim) (fun locs hS => ?_)
    refine q_ge (tgt := 56) hx hb (by omega) (q31 (hB _ _)) dX7_archivedLines_12 (by decide) (fun g2 => (by omega)) (fun g2 => ?_)
    refine lv_aload_n hx hb dX7_archivedLines_15 rfl (lv_at hl 0 rfl) ?_
    refine q_get (C := RX7) (T := TX7) (N := 7) hx hb hts iRX7 hown hC.1 (hW.to qLV0) rfl 0 (by decide) (hts (.fieldLink RX7 10 "LogWeave" "lineList" "Ljava/util/ArrayList;") (List.mem_of_getElem? (i := 1) (by decide +kernel))) rfl (v := .ref (ad 1 0)) rfl dX7_archivedLines_16 ?_
    refine lv_iload_n hx hb dX7_archivedLines_19 rfl (lv_at hl 3 rfl) ?_
    refine q_v (va_runV (As := [.int (nI i)]) (rest := []) ⟨hx, hb, hml, hown, hts⟩ (m_get l G (ad 1 0) (ad 2 0) (σ 32 0) (σ 0 0) (fun i => if i < σ 0 0 then some (ad (4 + 2 * 0) i) else none) (.int (nI (σ 16 0))) i (ad 4 i) hi (hF.c 0) (hB _ _) (if_pos hi)) (cwV 1 hts gX7_archivedLines_Jx4a65c_get_915e3 rfl rfl rfl (by decide +kernel) ⟨Nat.le_of_ble_eq_true rfl, Nat.le_of_ble_eq_true rfl⟩) ⟨qO.blind, qrecv hC (hW.to (qLV1 (j := 0) (by decide))) rfl, qO.pre hC (hW.list hF (J := 0) (by decide) hi)⟩ rfl rfl hl.1 rfl (lv_room (Nat.le_of_ble_eq_true rfl)) dX7_archivedLines_20 ⟨Nat.le_of_ble_eq_true rfl, Nat.le_of_ble_eq_true rfl⟩) hS (fun _ h => h.elim) (fun locs hS => ?_)
    refine va_castS hx hb hown (hts (.classLink RX7 74 "LogWeave$Line") (List.mem_of_getElem? (i := 2) (by decide +kernel))) (hC.1.1 6 _ rfl).2 (qrecv hC (hW.to (qLV4 hi)) rfl) dX7_archivedLines_23 ?_
    refine lv_astore (lv' := [(4, .ref (ad 4 i)), (0, .ref (ad 0 0)), (1, .ref (ad kf a)), (2, .int (nI v)), (3, .int (nI i))]) hx hb dX7_archivedLines_26 hl (by decide) rfl (fun ls hl => ?_)
    refine lv_aload hx hb dX7_archivedLines_28 (lv_at hl 0 rfl) ?_
    refine q_getN (C := RX3) (T := TX3) (N := 8) hx hb hts iRX3 hown hC.1 (hW.to (qLV4 hi)) rfl 6 (by decide) (va_Nw.use rfl (qf_RX7_103 hC)) rfl (v := .int (nI (σ 69 i))) rfl dX7_archivedLines_30 ?_
    refine lv_bipush (v := nI 97) hx hb dX7_archivedLines_33 (by decide) ?_
    refine q_ne (tgt := 50) hx hb (q31 (hB _ _)) (by decide) dX7_archivedLines_35 (by decide) (fun c2 => ?_) (fun c2 => ?_)
    · skip
      refine lv_iinc (v := nI (i + 1)) (lv' := [(3, .int (nI (i + 1))), (4, .ref (ad 4 i)), (0, .ref (ad 0 0)), (1, .ref (ad kf a)), (2, .int (nI v))]) hx hb dX7_archivedLines_50 hl (k := 4) rfl (nI_1 i) (by decide) rfl (fun ls hl => ?_)
      refine lv_goto (tgt := 4) hx hb dX7_archivedLines_53 (by decide) ?_
      exact ih _ locs ls ⟨rfl, hS, v, by rw [e_v, qsum, qB_f (fun h => c2 h.1)]; rfl, lv_sub hl [2, 3, 4, 0] rfl⟩
    · skip
      refine lv_aload_n hx hb dX7_archivedLines_38 rfl (lv_at hl 2 rfl) ?_
      refine lv_aload hx hb dX7_archivedLines_39 (lv_at hl 0 rfl) ?_
      refine q_v (va_runVN (C := RX1) (As := [.ref (ad 4 i)]) (rest := []) ⟨hx, hb, hml, hown, hts⟩ (m_takes l G es A σ ad hF kf a s0 r0 P w0 hv hP hs hr0 hw i hi) ⟨va_cnB 1 hts gX7_archivedLines_X1_takes_n393 rfl rfl rfl (qm_RX7_393 hC) (hts (.initialized RX1) (List.mem_of_getElem? (i := 27) (by decide +kernel))) (by decide +kernel) ⟨Nat.le_of_ble_eq_true rfl, Nat.le_of_ble_eq_true rfl⟩, (hts (.instanceMethod yX1_takes) (List.mem_of_getElem? (i := 26) (by decide +kernel))), (hts (.selects RX1 yX1_takes yX1_takes) (List.mem_of_getElem? (i := 28) (by decide +kernel)))⟩ ⟨qR.blind, qrecv hC (hW.to hv) rfl, qR.pre hC hW⟩ rfl rfl hl.1 rfl (lv_room (Nat.le_of_ble_eq_true rfl)) dX7_archivedLines_41 ⟨Nat.le_of_ble_eq_true rfl, Nat.le_of_ble_eq_true rfl⟩) hS (fun _ h => h.elim) (fun locs hS => ?_)
      refine q_eq0 (tgt := 50) hx hb q_31B dX7_archivedLines_44 (by decide) (fun c3 => ?_) (fun c3 => ?_)
      · skip
        refine lv_iinc (v := nI (i + 1)) (lv' := [(3, .int (nI (i + 1))), (4, .ref (ad 4 i)), (0, .ref (ad 0 0)), (1, .ref (ad kf a)), (2, .int (nI v))]) hx hb dX7_archivedLines_50 hl (k := 4) rfl (nI_1 i) (by decide) rfl (fun ls hl => ?_)
        refine lv_goto (tgt := 4) hx hb dX7_archivedLines_53 (by decide) ?_
        exact ih _ locs ls ⟨rfl, hS, v, by rw [e_v, qsum, qB_f (fun h => by rw [qB_t h.2] at c3; exact absurd c3 (by decide))]; rfl, lv_sub hl [2, 3, 4, 0] rfl⟩
      · skip
        refine lv_iinc (v := nI (v + 1)) (lv' := [(2, .int (nI (v + 1))), (4, .ref (ad 4 i)), (0, .ref (ad 0 0)), (1, .ref (ad kf a)), (3, .int (nI i))]) hx hb dX7_archivedLines_47 hl (k := 3) rfl (nI_1 v) (by decide) rfl (fun ls hl => ?_)
        refine lv_iinc (v := nI (i + 1)) (lv' := [(3, .int (nI (i + 1))), (2, .int (nI (v + 1))), (4, .ref (ad 4 i)), (0, .ref (ad 0 0)), (1, .ref (ad kf a))]) hx hb dX7_archivedLines_50 hl (k := 4) rfl (nI_1 i) (by decide) rfl (fun ls hl => ?_)
        refine lv_goto (tgt := 4) hx hb dX7_archivedLines_53 (by decide) ?_
        exact ih _ locs ls ⟨rfl, hS, (v + 1), by rw [e_v, qsum, qB_t ⟨c2, Classical.byContradiction fun h => c3 (qB_f h)⟩], lv_sub hl [3, 4, 1, 0] rfl⟩
set_option maxHeartbeats 4000000 in
set_option maxRecDepth 100000 in
theorem m_countFromAllLines (l : Launch) (G : QG) (es : Nat) (A : Nat → Prop) (σ ad : QSt) (hF : qWF σ) (a : Nat) (ha : a < σ 0 2) : Met l yX7_countFromAllLines wsX7_countFromAllLines ({ frames := 3, cells := 0, slots := 0, locals := 64 } : Room) (qR G es A σ ad [.ref (ad 0 0), .ref (ad 8 a)]) (qPV (some (.int (nI (qcnt σ a))))) 0 0 (fun _ => False) := by
  refine Met.ofW (cc := cX7_countFromAllLines) (maxL := 4) (ret := (some .int)) (by decide) rfl ?_
  intro p e s m args below meth c s₁ B hml hv
  obtain ⟨rfl, hC, hW⟩ := hv
  have hx := B.exec
  have hb := B.bytes
  have hr := B.returns
  have hts := atoms_spec (ws := wsX7_countFromAllLines) B.pre
  have hown : s.vm.findClass RX7 = some m.cls := findClass_of_methodNamed B.named
  have hlocks := B.notSynchronized
  have hB := hF.1
  have hn := hF.n
  have hS : va_S (fun _ => False) s.heap s.heap [] := va_S.rf
  have hl := lv_entry ([.ref (ad 0 0), .ref (ad 8 a)]) (n := 4) (Nat.le_of_ble_eq_true rfl)
  rw [lg_entry_eq]
  generalize (lg_sl ([.ref (ad 0 0), .ref (ad 8 a)]) ++ List.replicate (4 - (lg_sl ([.ref (ad 0 0), .ref (ad 8 a)])).length) Slot.unset).toArray = ls at hl ⊢
  have hl : lv_has ls 4 [(0, .ref (ad 0 0)), (1, .ref (ad 8 a))] := hl
  have iRX7 : ∀ w ∈ wsX70, w ∈ wsX7_countFromAllLines := by decide +kernel
  refine lv_iconst (v := nI 0) hx hb dX7_countFromAllLines_0 (by decide) ?_
  refine lv_istore_n (lv' := [(2, .int (nI 0)), (0, .ref (ad 0 0)), (1, .ref (ad 8 a))]) hx hb dX7_countFromAllLines_1 rfl hl (by decide) rfl (fun ls hl => ?_)
  refine lv_iconst (v := nI 0) hx hb dX7_countFromAllLines_2 (by decide) ?_
  refine lv_istore_n (lv' := [(3, .int (nI 0)), (2, .int (nI 0)), (0, .ref (ad 0 0)), (1, .ref (ad 8 a))]) hx hb dX7_countFromAllLines_3 rfl hl (by decide) rfl (fun ls hl => ?_)
  refine q_up (σ 0 0) (fun i H locs ls => H = s.heap ∧ va_S (fun _ => False) s.heap H locs ∧ ∃ (v : Nat), (v = qsum (fun l => qB (qcn σ a l)) i) ∧ lv_has ls 4 [(0, .ref (ad 0 0)), (1, .ref (ad 8 a)), (2, .int (nI v)), (3, .int (nI i))]) ?_ ?_ (i0 := 0) (Nat.zero_le _) ⟨rfl, hS, 0, rfl, lv_sub hl [2, 3, 1, 0] rfl⟩
  · rintro _ locs ls ⟨rfl, hS, v, e_v, hl⟩
    refine lv_iload_n hx hb dX7_countFromAllLines_4 rfl (lv_at hl 3 rfl) ?_
    refine lv_aload_n hx hb dX7_countFromAllLines_5 rfl (lv_at hl 0 rfl) ?_
    refine q_get (C := RX7) (T := TX7) (N := 7) hx hb hts iRX7 hown hC.1 (hW.to qLV0) rfl 0 (by decide) (hts (.fieldLink RX7 10 "LogWeave" "lineList" "Ljava/util/ArrayList;") (List.mem_of_getElem? (i := 1) (by decide +kernel))) rfl (v := .ref (ad 1 0)) rfl dX7_countFromAllLines_6 ?_
    refine q_v (va_runV (As := []) (rest := [.int (nI (σ 0 0))]) ⟨hx, hb, hml, hown, hts⟩ (m_size l G (ad 1 0) _ _ (nI (σ 0 0))) (cwV 0 hts gX7_countFromAllLines_Jx4a65c_size_8abf5 rfl rfl rfl (by decide +kernel) ⟨Nat.le_of_ble_eq_true rfl, Nat.le_of_ble_eq_true rfl⟩) ⟨qO.blind, qrecv hC (hW.to (qLV1 (j := 0) (by decide))) rfl, qO.pre hC (hW.lob (by decide))⟩ rfl rfl hl.1 rfl (lv_room (Nat.le_of_ble_eq_true rfl)) dX7_countFromAllLines_9 ⟨Nat.le_of_ble_eq_true rfl, Nat.le_of_ble_eq_true rfl⟩) hS (fun _ h => h.elim) (fun locs hS => ?_)
    refine q_ge (tgt := 46) hx hb (q31 (hB _ _)) (q31 (hB _ _)) dX7_countFromAllLines_12 (by decide) (fun g1 => ?_) (fun g1 => (by omega))
    refine lv_iload_n hx hb dX7_countFromAllLines_46 rfl (lv_at hl 2 rfl) ?_
    exact W.iret hx hb hr (fun t ht _ => ⟨by rw [e_v]; rfl, ht⟩) hS.2.2 dX7_countFromAllLines_47
  · rintro i _ locs ls hi ⟨rfl, hS, v, e_v, hl⟩ ih
    refine lv_iload_n hx hb dX7_countFromAllLines_4 rfl (lv_at hl 3 rfl) ?_
    refine lv_aload_n hx hb dX7_countFromAllLines_5 rfl (lv_at hl 0 rfl) ?_
    refine q_get (C := RX7) (T := TX7) (N := 7) hx hb hts iRX7 hown hC.1 (hW.to qLV0) rfl 0 (by decide) (hts (.fieldLink RX7 10 "LogWeave" "lineList" "Ljava/util/ArrayList;") (List.mem_of_getElem? (i := 1) (by decide +kernel))) rfl (v := .ref (ad 1 0)) rfl dX7_countFromAllLines_6 ?_
    refine q_v (va_runV (As := []) (rest := [.int (nI i)]) ⟨hx, hb, hml, hown, hts⟩ (m_size l G (ad 1 0) _ _ (nI (σ 0 0))) (cwV 0 hts gX7_countFromAllLines_Jx4a65c_size_8abf5 rfl rfl rfl (by decide +kernel) ⟨Nat.le_of_ble_eq_true rfl, Nat.le_of_ble_eq_true rfl⟩) ⟨qO.blind, qrecv hC (hW.to (qLV1 (j := 0) (by decide))) rfl, qO.pre hC (hW.lob (by decide))⟩ rfl rfl hl.1 rfl (lv_room (Nat.le_of_ble_eq_true rfl)) dX7_countFromAllLines_9 ⟨Nat.le_of_ble_eq_true rfl, Nat.le_of_ble_eq_true rfl⟩) hS (fun _ h => h.elim) (fun locs hS => ?_)
    refine q_ge (tgt := 46) hx hb (by omega) (q31 (hB _ _)) dX7_countFromAllLines_12 (by decide) (fun g2 => (by omega)) (fun g2 => ?_)
    refine lv_aload_n hx hb dX7_countFromAllLines_15 rfl (lv_at hl 1 rfl) ?_
    refine lv_aload_n hx hb dX7_countFromAllLines_16 rfl (lv_at hl 0 rfl) ?_
    refine q_get (C := RX7) (T := TX7) (N := 7) hx hb hts iRX7 hown hC.1 (hW.to qLV0) rfl 0 (by decide) (hts (.fieldLink RX7 10 "LogWeave" "lineList" "Ljava/util/ArrayList;") (List.mem_of_getElem? (i := 1) (by decide +kernel))) rfl (v := .ref (ad 1 0)) rfl dX7_countFromAllLines_17 ?_
    refine lv_iload_n hx hb dX7_countFromAllLines_20 rfl (lv_at hl 3 rfl) ?_
    refine q_v (va_runV (As := [.int (nI i)]) (rest := [.ref (ad 8 a)]) ⟨hx, hb, hml, hown, hts⟩ (m_get l G (ad 1 0) (ad 2 0) (σ 32 0) (σ 0 0) (fun i => if i < σ 0 0 then some (ad (4 + 2 * 0) i) else none) (.int (nI (σ 16 0))) i (ad 4 i) hi (hF.c 0) (hB _ _) (if_pos hi)) (cwV 1 hts gX7_countFromAllLines_Jx4a65c_get_915e3 rfl rfl rfl (by decide +kernel) ⟨Nat.le_of_ble_eq_true rfl, Nat.le_of_ble_eq_true rfl⟩) ⟨qO.blind, qrecv hC (hW.to (qLV1 (j := 0) (by decide))) rfl, qO.pre hC (hW.list hF (J := 0) (by decide) hi)⟩ rfl rfl hl.1 rfl (lv_room (Nat.le_of_ble_eq_true rfl)) dX7_countFromAllLines_21 ⟨Nat.le_of_ble_eq_true rfl, Nat.le_of_ble_eq_true rfl⟩) hS (fun _ h => h.elim) (fun locs hS => ?_)
    refine va_castS hx hb hown (hts (.classLink RX7 74 "LogWeave$Line") (List.mem_of_getElem? (i := 2) (by decide +kernel))) (hC.1.1 6 _ rfl).2 (qrecv hC (hW.to (qLV4 hi)) rfl) dX7_countFromAllLines_24 ?_
    refine lv_aload_n hx hb dX7_countFromAllLines_27 rfl (lv_at hl 0 rfl) ?_
    refine q_get (C := RX7) (T := TX7) (N := 7) hx hb hts iRX7 hown hC.1 (hW.to qLV0) rfl 6 (by decide) (hts (.fieldLink RX7 76 "LogWeave" "now" "I") (List.mem_of_getElem? (i := 3) (by decide +kernel))) rfl (v := .int (nI (σ 1 0))) rfl dX7_countFromAllLines_28 ?_
    refine q_v (va_runVN (C := RX0) (As := [.ref (ad 4 i), .int (nI (σ 1 0))]) (rest := []) ⟨hx, hb, hml, hown, hts⟩ (m_counts l G es A σ ad hF a ha i hi) ⟨va_cnB 2 hts gX7_countFromAllLines_X0_counts_n345 rfl rfl rfl (qm_RX7_345 hC) (hts (.initialized RX0) (List.mem_of_getElem? (i := 28) (by decide +kernel))) (by decide +kernel) ⟨Nat.le_of_ble_eq_true rfl, Nat.le_of_ble_eq_true rfl⟩, (hts (.instanceMethod yX0_counts) (List.mem_of_getElem? (i := 27) (by decide +kernel))), (hts (.selects RX0 yX0_counts yX0_counts) (List.mem_of_getElem? (i := 29) (by decide +kernel)))⟩ ⟨qR.blind, qrecv hC (hW.to (qLV8 ha)) rfl, qR.pre hC hW⟩ rfl rfl hl.1 rfl (lv_room (Nat.le_of_ble_eq_true rfl)) dX7_countFromAllLines_31 ⟨Nat.le_of_ble_eq_true rfl, Nat.le_of_ble_eq_true rfl⟩) hS (fun _ h => h.elim) (fun locs hS => ?_)
    refine q_eq0 (tgt := 40) hx hb q_31B dX7_countFromAllLines_34 (by decide) (fun c3 => ?_) (fun c3 => ?_)
    · skip
      refine lv_iinc (v := nI (i + 1)) (lv' := [(3, .int (nI (i + 1))), (0, .ref (ad 0 0)), (1, .ref (ad 8 a)), (2, .int (nI v))]) hx hb dX7_countFromAllLines_40 hl (k := 3) rfl (nI_1 i) (by decide) rfl (fun ls hl => ?_)
      refine lv_goto (tgt := 4) hx hb dX7_countFromAllLines_43 (by decide) ?_
      exact ih _ locs ls ⟨rfl, hS, v, by rw [e_v, qsum, qB_f (fun h => by rw [qB_t h] at c3; exact absurd c3 (by decide))]; rfl, lv_sub hl [1, 2, 3, 0] rfl⟩
    · skip
      refine lv_iinc (v := nI (v + 1)) (lv' := [(2, .int (nI (v + 1))), (0, .ref (ad 0 0)), (1, .ref (ad 8 a)), (3, .int (nI i))]) hx hb dX7_countFromAllLines_37 hl (k := 2) rfl (nI_1 v) (by decide) rfl (fun ls hl => ?_)
      refine lv_iinc (v := nI (i + 1)) (lv' := [(3, .int (nI (i + 1))), (2, .int (nI (v + 1))), (0, .ref (ad 0 0)), (1, .ref (ad 8 a))]) hx hb dX7_countFromAllLines_40 hl (k := 3) rfl (nI_1 i) (by decide) rfl (fun ls hl => ?_)
      refine lv_goto (tgt := 4) hx hb dX7_countFromAllLines_43 (by decide) ?_
      exact ih _ locs ls ⟨rfl, hS, (v + 1), by rw [e_v, qsum, qB_t (Classical.byContradiction fun h => c3 (qB_f h))], lv_sub hl [2, 3, 1, 0] rfl⟩
set_option maxHeartbeats 4000000 in
set_option maxRecDepth 100000 in
theorem m_nextToDrop (l : Launch) (G : QG) (es : Nat) (A : Nat → Prop) (σ ad : QSt) (hF : qWF σ) (s0 : Nat) (hs0 : s0 < 1073741824) : Met l yX7_nextToDrop wsX7_nextToDrop ({ frames := 3, cells := 0, slots := 0, locals := 64 } : Room) (qR G es A σ ad [.ref (ad 0 0), .int (nI s0)]) (qPV (some (qrf (ad 4) (qnd σ s0 (σ 0 0))))) 0 0 (fun _ => False) := by
  refine Met.ofW (cc := cX7_nextToDrop) (maxL := 5) (ret := (some (.object "LogWeave$Line"))) (by decide) rfl ?_
  intro p e s m args below meth c s₁ B hml hv
  obtain ⟨rfl, hC, hW⟩ := hv
  have hx := B.exec
  have hb := B.bytes
  have hr := B.returns
  have hts := atoms_spec (ws := wsX7_nextToDrop) B.pre
  have hown : s.vm.findClass RX7 = some m.cls := findClass_of_methodNamed B.named
  have hlocks := B.notSynchronized
  have hB := hF.1
  have hn := hF.n
  have hS : va_S (fun _ => False) s.heap s.heap [] := va_S.rf
  have hl := lv_entry ([.ref (ad 0 0), .int (nI s0)]) (n := 5) (Nat.le_of_ble_eq_true rfl)
  rw [lg_entry_eq]
  generalize (lg_sl ([.ref (ad 0 0), .int (nI s0)]) ++ List.replicate (5 - (lg_sl ([.ref (ad 0 0), .int (nI s0)])).length) Slot.unset).toArray = ls at hl ⊢
  have hl : lv_has ls 5 [(0, .ref (ad 0 0)), (1, .int (nI s0))] := hl
  have iRX7 : ∀ w ∈ wsX70, w ∈ wsX7_nextToDrop := by decide +kernel
  have iRX3 : ∀ w ∈ wsX30, w ∈ wsX7_nextToDrop := by decide +kernel
  refine lv_null hx hb dX7_nextToDrop_0 ?_
  refine lv_astore_nN (lv' := [(2, .null), (0, .ref (ad 0 0)), (1, .int (nI s0))]) hx hb dX7_nextToDrop_1 rfl hl (by decide) rfl (fun ls hl => ?_)
  refine lv_iconst (v := nI 0) hx hb dX7_nextToDrop_2 (by decide) ?_
  refine lv_istore_n (lv' := [(3, .int (nI 0)), (2, .null), (0, .ref (ad 0 0)), (1, .int (nI s0))]) hx hb dX7_nextToDrop_3 rfl hl (by decide) rfl (fun ls hl => ?_)
  refine q_up (σ 0 0) (fun i H locs ls => H = s.heap ∧ va_S (fun _ => False) s.heap H locs ∧ ∃ (v : Option Nat), (v = qnd σ s0 i) ∧ lv_has ls 5 [(0, .ref (ad 0 0)), (1, .int (nI s0)), (2, qrf (ad 4) v), (3, .int (nI i))]) ?_ ?_ (i0 := 0) (Nat.zero_le _) ⟨rfl, hS, none, rfl, lv_sub hl [2, 3, 1, 0] rfl⟩
  · rintro _ locs ls ⟨rfl, hS, v, e_v, hl⟩
    refine lv_iload_n hx hb dX7_nextToDrop_4 rfl (lv_at hl 3 rfl) ?_
    refine lv_aload_n hx hb dX7_nextToDrop_5 rfl (lv_at hl 0 rfl) ?_
    refine q_get (C := RX7) (T := TX7) (N := 7) hx hb hts iRX7 hown hC.1 (hW.to qLV0) rfl 0 (by decide) (hts (.fieldLink RX7 10 "LogWeave" "lineList" "Ljava/util/ArrayList;") (List.mem_of_getElem? (i := 1) (by decide +kernel))) rfl (v := .ref (ad 1 0)) rfl dX7_nextToDrop_6 ?_
    refine q_v (va_runV (As := []) (rest := [.int (nI (σ 0 0))]) ⟨hx, hb, hml, hown, hts⟩ (m_size l G (ad 1 0) _ _ (nI (σ 0 0))) (cwV 0 hts gX7_nextToDrop_Jx4a65c_size_8abf5 rfl rfl rfl (by decide +kernel) ⟨Nat.le_of_ble_eq_true rfl, Nat.le_of_ble_eq_true rfl⟩) ⟨qO.blind, qrecv hC (hW.to (qLV1 (j := 0) (by decide))) rfl, qO.pre hC (hW.lob (by decide))⟩ rfl rfl hl.1 rfl (lv_room (Nat.le_of_ble_eq_true rfl)) dX7_nextToDrop_9 ⟨Nat.le_of_ble_eq_true rfl, Nat.le_of_ble_eq_true rfl⟩) hS (fun _ h => h.elim) (fun locs hS => ?_)
    refine q_ge (tgt := 80) hx hb (q31 (hB _ _)) (q31 (hB _ _)) dX7_nextToDrop_12 (by decide) (fun g1 => ?_) (fun g1 => (by omega))
    cases v with
    | none =>
      refine lv_aload_nN hx hb dX7_nextToDrop_80 rfl (lv_at hl 2 rfl) ?_
      exact W.aret hx hb hr (Or.inl ⟨_, rfl⟩) (Or.inl rfl) (fun t ht _ => ⟨by rw [← e_v], ht⟩) hS.2.2 dX7_nextToDrop_81
    | some k =>
      refine lv_aload_n hx hb dX7_nextToDrop_80 rfl (lv_at hl 2 rfl) ?_
      exact W.aret hx hb hr (Or.inl ⟨_, rfl⟩) (Or.inr ⟨_, rfl⟩) (fun t ht _ => ⟨by rw [← e_v], ht⟩) hS.2.2 dX7_nextToDrop_81
  · rintro i _ locs ls hi ⟨rfl, hS, v, e_v, hl⟩ ih
    refine lv_iload_n hx hb dX7_nextToDrop_4 rfl (lv_at hl 3 rfl) ?_
    refine lv_aload_n hx hb dX7_nextToDrop_5 rfl (lv_at hl 0 rfl) ?_
    refine q_get (C := RX7) (T := TX7) (N := 7) hx hb hts iRX7 hown hC.1 (hW.to qLV0) rfl 0 (by decide) (hts (.fieldLink RX7 10 "LogWeave" "lineList" "Ljava/util/ArrayList;") (List.mem_of_getElem? (i := 1) (by decide +kernel))) rfl (v := .ref (ad 1 0)) rfl dX7_nextToDrop_6 ?_
    refine q_v (va_runV (As := []) (rest := [.int (nI i)]) ⟨hx, hb, hml, hown, hts⟩ (m_size l G (ad 1 0) _ _ (nI (σ 0 0))) (cwV 0 hts gX7_nextToDrop_Jx4a65c_size_8abf5 rfl rfl rfl (by decide +kernel) ⟨Nat.le_of_ble_eq_true rfl, Nat.le_of_ble_eq_true rfl⟩) ⟨qO.blind, qrecv hC (hW.to (qLV1 (j := 0) (by decide))) rfl, qO.pre hC (hW.lob (by decide))⟩ rfl rfl hl.1 rfl (lv_room (Nat.le_of_ble_eq_true rfl)) dX7_nextToDrop_9 ⟨Nat.le_of_ble_eq_true rfl, Nat.le_of_ble_eq_true rfl⟩) hS (fun _ h => h.elim) (fun locs hS => ?_)
    refine q_ge (tgt := 80) hx hb (by omega) (q31 (hB _ _)) dX7_nextToDrop_12 (by decide) (fun g2 => (by omega)) (fun g2 => ?_)
    refine lv_aload_n hx hb dX7_nextToDrop_15 rfl (lv_at hl 0 rfl) ?_
    refine q_get (C := RX7) (T := TX7) (N := 7) hx hb hts iRX7 hown hC.1 (hW.to qLV0) rfl 0 (by decide) (hts (.fieldLink RX7 10 "LogWeave" "lineList" "Ljava/util/ArrayList;") (List.mem_of_getElem? (i := 1) (by decide +kernel))) rfl (v := .ref (ad 1 0)) rfl dX7_nextToDrop_16 ?_
    refine lv_iload_n hx hb dX7_nextToDrop_19 rfl (lv_at hl 3 rfl) ?_
    refine q_v (va_runV (As := [.int (nI i)]) (rest := []) ⟨hx, hb, hml, hown, hts⟩ (m_get l G (ad 1 0) (ad 2 0) (σ 32 0) (σ 0 0) (fun i => if i < σ 0 0 then some (ad (4 + 2 * 0) i) else none) (.int (nI (σ 16 0))) i (ad 4 i) hi (hF.c 0) (hB _ _) (if_pos hi)) (cwV 1 hts gX7_nextToDrop_Jx4a65c_get_915e3 rfl rfl rfl (by decide +kernel) ⟨Nat.le_of_ble_eq_true rfl, Nat.le_of_ble_eq_true rfl⟩) ⟨qO.blind, qrecv hC (hW.to (qLV1 (j := 0) (by decide))) rfl, qO.pre hC (hW.list hF (J := 0) (by decide) hi)⟩ rfl rfl hl.1 rfl (lv_room (Nat.le_of_ble_eq_true rfl)) dX7_nextToDrop_20 ⟨Nat.le_of_ble_eq_true rfl, Nat.le_of_ble_eq_true rfl⟩) hS (fun _ h => h.elim) (fun locs hS => ?_)
    refine va_castS hx hb hown (hts (.classLink RX7 74 "LogWeave$Line") (List.mem_of_getElem? (i := 2) (by decide +kernel))) (hC.1.1 6 _ rfl).2 (qrecv hC (hW.to (qLV4 hi)) rfl) dX7_nextToDrop_23 ?_
    refine lv_astore (lv' := [(4, .ref (ad 4 i)), (0, .ref (ad 0 0)), (1, .int (nI s0)), (2, qrf (ad 4) v), (3, .int (nI i))]) hx hb dX7_nextToDrop_26 hl (by decide) rfl (fun ls hl => ?_)
    refine lv_aload hx hb dX7_nextToDrop_28 (lv_at hl 0 rfl) ?_
    refine q_getN (C := RX3) (T := TX3) (N := 8) hx hb hts iRX3 hown hC.1 (hW.to (qLV4 hi)) rfl 0 (by decide) (va_Nw.use rfl (qf_RX7_157 hC)) rfl (v := .int (nI (σ 64 i))) rfl dX7_nextToDrop_30 ?_
    refine lv_iload_n hx hb dX7_nextToDrop_33 rfl (lv_at hl 2 rfl) ?_
    cases v with
    | none =>
      have e9 := e_v.symm
      refine q_ne (tgt := 74) hx hb (q31 (hB _ _)) (q31 hs0) dX7_nextToDrop_34 (by decide) (fun c2 => ?_) (fun c2 => ?_)
      · skip
        refine lv_iinc (v := nI (i + 1)) (lv' := [(3, .int (nI (i + 1))), (4, .ref (ad 4 i)), (0, .ref (ad 0 0)), (1, .int (nI s0)), (2, .null)]) hx hb dX7_nextToDrop_74 hl (k := 4) rfl (nI_1 i) (by decide) rfl (fun ls hl => ?_)
        refine lv_goto (tgt := 4) hx hb dX7_nextToDrop_77 (by decide) ?_
        exact ih _ locs ls ⟨rfl, hS, none, by rw [qnd, e9]; exact (if_neg (fun h => c2 h.1)).symm, lv_sub hl [2, 3, 4, 0] rfl⟩
      · skip
        refine lv_aload hx hb dX7_nextToDrop_37 (lv_at hl 0 rfl) ?_
        refine q_getN (C := RX3) (T := TX3) (N := 8) hx hb hts iRX3 hown hC.1 (hW.to (qLV4 hi)) rfl 6 (by decide) (va_Nw.use rfl (qf_RX7_103 hC)) rfl (v := .int (nI (σ 69 i))) rfl dX7_nextToDrop_39 ?_
        refine lv_bipush (v := nI 107) hx hb dX7_nextToDrop_42 (by decide) ?_
        refine q_ne (tgt := 74) hx hb (q31 (hB _ _)) (by decide) dX7_nextToDrop_44 (by decide) (fun c3 => ?_) (fun c3 => ?_)
        · skip
          refine lv_iinc (v := nI (i + 1)) (lv' := [(3, .int (nI (i + 1))), (4, .ref (ad 4 i)), (0, .ref (ad 0 0)), (1, .int (nI s0)), (2, .null)]) hx hb dX7_nextToDrop_74 hl (k := 4) rfl (nI_1 i) (by decide) rfl (fun ls hl => ?_)
          refine lv_goto (tgt := 4) hx hb dX7_nextToDrop_77 (by decide) ?_
          exact ih _ locs ls ⟨rfl, hS, none, by rw [qnd, e9]; exact (if_neg (fun h => c3 h.2.1)).symm, lv_sub hl [2, 3, 4, 0] rfl⟩
        · skip
          refine lv_aload hx hb dX7_nextToDrop_47 (lv_at hl 0 rfl) ?_
          refine q_getN (C := RX3) (T := TX3) (N := 8) hx hb hts iRX3 hown hC.1 (hW.to (qLV4 hi)) rfl 7 (by decide) (va_Nw.use rfl (qf_RX7_263 hC)) rfl (v := .int (nI (σ 70 i))) rfl dX7_nextToDrop_49 ?_
          refine q_ne0 (tgt := 74) hx hb (q31 (hB _ _)) dX7_nextToDrop_52 (by decide) (fun c4 => ?_) (fun c4 => ?_)
          · skip
            refine lv_iinc (v := nI (i + 1)) (lv' := [(3, .int (nI (i + 1))), (4, .ref (ad 4 i)), (0, .ref (ad 0 0)), (1, .int (nI s0)), (2, .null)]) hx hb dX7_nextToDrop_74 hl (k := 4) rfl (nI_1 i) (by decide) rfl (fun ls hl => ?_)
            refine lv_goto (tgt := 4) hx hb dX7_nextToDrop_77 (by decide) ?_
            exact ih _ locs ls ⟨rfl, hS, none, by rw [qnd, e9]; exact (if_neg (fun h => c4 h.2.2)).symm, lv_sub hl [2, 3, 4, 0] rfl⟩
          · skip
            refine lv_aload_nN hx hb dX7_nextToDrop_55 rfl (lv_at hl 3 rfl) ?_
            refine lv_ifnullN (tgt := 71) hx hb dX7_nextToDrop_56 (by decide) ?_
            refine lv_aload hx hb dX7_nextToDrop_71 (lv_at hl 0 rfl) ?_
            refine lv_astore_n (lv' := [(2, .ref (ad 4 i)), (4, .ref (ad 4 i)), (0, .ref (ad 0 0)), (1, .int (nI s0)), (3, .int (nI i))]) hx hb dX7_nextToDrop_73 rfl hl (by decide) rfl (fun ls hl => ?_)
            refine lv_iinc (v := nI (i + 1)) (lv' := [(3, .int (nI (i + 1))), (2, .ref (ad 4 i)), (4, .ref (ad 4 i)), (0, .ref (ad 0 0)), (1, .int (nI s0))]) hx hb dX7_nextToDrop_74 hl (k := 4) rfl (nI_1 i) (by decide) rfl (fun ls hl => ?_)
            refine lv_goto (tgt := 4) hx hb dX7_nextToDrop_77 (by decide) ?_
            exact ih _ locs ls ⟨rfl, hS, (some i), by rw [qnd, e9]; exact (if_pos ⟨c2, c3, c4⟩).symm, lv_sub hl [3, 4, 1, 0] rfl⟩
    | some k =>
      have hk : k < σ 0 0 := Nat.lt_trans (qnd_lt σ s0 i k e_v.symm) hi
      have e9 := e_v.symm
      refine q_ne (tgt := 74) hx hb (q31 (hB _ _)) (q31 hs0) dX7_nextToDrop_34 (by decide) (fun c2 => ?_) (fun c2 => ?_)
      · skip
        refine lv_iinc (v := nI (i + 1)) (lv' := [(3, .int (nI (i + 1))), (4, .ref (ad 4 i)), (0, .ref (ad 0 0)), (1, .int (nI s0)), (2, .ref (ad 4 k))]) hx hb dX7_nextToDrop_74 hl (k := 4) rfl (nI_1 i) (by decide) rfl (fun ls hl => ?_)
        refine lv_goto (tgt := 4) hx hb dX7_nextToDrop_77 (by decide) ?_
        exact ih _ locs ls ⟨rfl, hS, (some k), by rw [qnd, e9]; exact (if_neg (fun h => c2 h.1)).symm, lv_sub hl [2, 3, 4, 0] rfl⟩
      · skip
        refine lv_aload hx hb dX7_nextToDrop_37 (lv_at hl 0 rfl) ?_
        refine q_getN (C := RX3) (T := TX3) (N := 8) hx hb hts iRX3 hown hC.1 (hW.to (qLV4 hi)) rfl 6 (by decide) (va_Nw.use rfl (qf_RX7_103 hC)) rfl (v := .int (nI (σ 69 i))) rfl dX7_nextToDrop_39 ?_
        refine lv_bipush (v := nI 107) hx hb dX7_nextToDrop_42 (by decide) ?_
        refine q_ne (tgt := 74) hx hb (q31 (hB _ _)) (by decide) dX7_nextToDrop_44 (by decide) (fun c3 => ?_) (fun c3 => ?_)
        · skip
          refine lv_iinc (v := nI (i + 1)) (lv' := [(3, .int (nI (i + 1))), (4, .ref (ad 4 i)), (0, .ref (ad 0 0)), (1, .int (nI s0)), (2, .ref (ad 4 k))]) hx hb dX7_nextToDrop_74 hl (k := 4) rfl (nI_1 i) (by decide) rfl (fun ls hl => ?_)
          refine lv_goto (tgt := 4) hx hb dX7_nextToDrop_77 (by decide) ?_
          exact ih _ locs ls ⟨rfl, hS, (some k), by rw [qnd, e9]; exact (if_neg (fun h => c3 h.2.1)).symm, lv_sub hl [2, 3, 4, 0] rfl⟩
        · skip
          refine lv_aload hx hb dX7_nextToDrop_47 (lv_at hl 0 rfl) ?_
          refine q_getN (C := RX3) (T := TX3) (N := 8) hx hb hts iRX3 hown hC.1 (hW.to (qLV4 hi)) rfl 7 (by decide) (va_Nw.use rfl (qf_RX7_263 hC)) rfl (v := .int (nI (σ 70 i))) rfl dX7_nextToDrop_49 ?_
          refine q_ne0 (tgt := 74) hx hb (q31 (hB _ _)) dX7_nextToDrop_52 (by decide) (fun c4 => ?_) (fun c4 => ?_)
          · skip
            refine lv_iinc (v := nI (i + 1)) (lv' := [(3, .int (nI (i + 1))), (4, .ref (ad 4 i)), (0, .ref (ad 0 0)), (1, .int (nI s0)), (2, .ref (ad 4 k))]) hx hb dX7_nextToDrop_74 hl (k := 4) rfl (nI_1 i) (by decide) rfl (fun ls hl => ?_)
            refine lv_goto (tgt := 4) hx hb dX7_nextToDrop_77 (by decide) ?_
            exact ih _ locs ls ⟨rfl, hS, (some k), by rw [qnd, e9]; exact (if_neg (fun h => c4 h.2.2.1)).symm, lv_sub hl [2, 3, 4, 0] rfl⟩
          · skip
            refine lv_aload_n hx hb dX7_nextToDrop_55 rfl (lv_at hl 3 rfl) ?_
            refine lv_ifnull hx hb dX7_nextToDrop_56 ?_
            refine lv_aload hx hb dX7_nextToDrop_59 (lv_at hl 0 rfl) ?_
            refine q_getN (C := RX3) (T := TX3) (N := 8) hx hb hts iRX3 hown hC.1 (hW.to (qLV4 hi)) rfl 1 (by decide) (va_Nw.use rfl (qf_RX7_281 hC)) rfl (v := .int (nI (σ 65 i))) rfl dX7_nextToDrop_61 ?_
            refine lv_aload_n hx hb dX7_nextToDrop_64 rfl (lv_at hl 3 rfl) ?_
            refine q_getN (C := RX3) (T := TX3) (N := 8) hx hb hts iRX3 hown hC.1 (hW.to (qLV4 hk)) rfl 1 (by decide) (va_Nw.use rfl (qf_RX7_281 hC)) rfl (v := .int (nI (σ 65 k))) rfl dX7_nextToDrop_65 ?_
            refine q_ge (tgt := 74) hx hb (q31 (hB _ _)) (q31 (hB _ _)) dX7_nextToDrop_68 (by decide) (fun c5 => ?_) (fun c5 => ?_)
            · skip
              refine lv_iinc (v := nI (i + 1)) (lv' := [(3, .int (nI (i + 1))), (4, .ref (ad 4 i)), (0, .ref (ad 0 0)), (1, .int (nI s0)), (2, .ref (ad 4 k))]) hx hb dX7_nextToDrop_74 hl (k := 4) rfl (nI_1 i) (by decide) rfl (fun ls hl => ?_)
              refine lv_goto (tgt := 4) hx hb dX7_nextToDrop_77 (by decide) ?_
              exact ih _ locs ls ⟨rfl, hS, (some k), by rw [qnd, e9]; exact (if_neg (fun h => absurd h.2.2.2 (by omega))).symm, lv_sub hl [2, 3, 4, 0] rfl⟩
            · skip
              refine lv_aload hx hb dX7_nextToDrop_71 (lv_at hl 0 rfl) ?_
              refine lv_astore_n (lv' := [(2, .ref (ad 4 i)), (4, .ref (ad 4 i)), (0, .ref (ad 0 0)), (1, .int (nI s0)), (3, .int (nI i))]) hx hb dX7_nextToDrop_73 rfl hl (by decide) rfl (fun ls hl => ?_)
              refine lv_iinc (v := nI (i + 1)) (lv' := [(3, .int (nI (i + 1))), (2, .ref (ad 4 i)), (4, .ref (ad 4 i)), (0, .ref (ad 0 0)), (1, .int (nI s0))]) hx hb dX7_nextToDrop_74 hl (k := 4) rfl (nI_1 i) (by decide) rfl (fun ls hl => ?_)
              refine lv_goto (tgt := 4) hx hb dX7_nextToDrop_77 (by decide) ?_
              exact ih _ locs ls ⟨rfl, hS, (some i), by rw [qnd, e9]; exact (if_pos ⟨c2, c3, c4, c5⟩).symm, lv_sub hl [3, 4, 1, 0] rfl⟩
set_option maxHeartbeats 4000000 in
set_option maxRecDepth 100000 in
theorem m_patternFor (l : Launch) (G : QG) (es : Nat) (A : Nat → Prop) (σ ad : QSt) (hF : qWF σ) (wa s0 : Nat) (x : Nat → Nat) (r : Option Nat) (hs0 : s0 < 1073741824) (hx0 : ∀ k, k < 3 → x k < 1073741823) (hr9 : qFst (fun q => σ 97 q = 0 ∧ s0 = σ 96 q ∧ qft (fun k => σ (112 + k) q) x) (σ 0 1) r) : Met l yX7_patternFor wsX7_patternFor ({ frames := 3, cells := 0, slots := 0, locals := 64 } : Room) (qR1 G es A σ ad (wa, .inr (9, [.int (nI (x 0)), .int (nI (x 1)), .int (nI (x 2))])) [.ref (ad 0 0), .int (nI s0), .ref (wa)]) (qPV (some (qrf (ad 6) r))) 0 0 (fun _ => False) := by
  refine Met.ofW (cc := cX7_patternFor) (maxL := 5) (ret := (some (.object "LogWeave$Pattern"))) (by decide) rfl ?_
  intro p e s m args below meth c s₁ B hml hv
  obtain ⟨rfl, hC, hW, hwa⟩ := hv
  have hx := B.exec
  have hb := B.bytes
  have hr := B.returns
  have hts := atoms_spec (ws := wsX7_patternFor) B.pre
  have hown : s.vm.findClass RX7 = some m.cls := findClass_of_methodNamed B.named
  have hlocks := B.notSynchronized
  have hB := hF.1
  have hn := hF.n
  have hS : va_S (fun _ => False) s.heap s.heap [] := va_S.rf
  have hl := lv_entry ([.ref (ad 0 0), .int (nI s0), .ref (wa)]) (n := 5) (Nat.le_of_ble_eq_true rfl)
  rw [lg_entry_eq]
  generalize (lg_sl ([.ref (ad 0 0), .int (nI s0), .ref (wa)]) ++ List.replicate (5 - (lg_sl ([.ref (ad 0 0), .int (nI s0), .ref (wa)])).length) Slot.unset).toArray = ls at hl ⊢
  have hl : lv_has ls 5 [(0, .ref (ad 0 0)), (1, .int (nI s0)), (2, .ref (wa))] := hl
  have iRX7 : ∀ w ∈ wsX70, w ∈ wsX7_patternFor := by decide +kernel
  have iRX4 : ∀ w ∈ wsX40, w ∈ wsX7_patternFor := by decide +kernel
  refine lv_iconst (v := nI 0) hx hb dX7_patternFor_0 (by decide) ?_
  refine lv_istore_n (lv' := [(3, .int (nI 0)), (0, .ref (ad 0 0)), (1, .int (nI s0)), (2, .ref (wa))]) hx hb dX7_patternFor_1 rfl hl (by decide) rfl (fun ls hl => ?_)
  refine q_up (σ 0 1) (fun i H locs ls => H = s.heap ∧ va_S (fun _ => False) s.heap H locs ∧ ∃ (h : Unit), (∀ j, j < i → ¬ (σ 97 j = 0 ∧ s0 = σ 96 j ∧ qft (fun k => σ (112 + k) j) x)) ∧ lv_has ls 5 [(0, .ref (ad 0 0)), (1, .int (nI s0)), (2, .ref (wa)), (3, .int (nI i))]) ?_ ?_ (i0 := 0) (Nat.zero_le _) ⟨rfl, hS, (), fun j hj => absurd hj (by omega), lv_sub hl [1, 2, 3, 0] rfl⟩
  · rintro _ locs ls ⟨rfl, hS, h, e_h, hl⟩
    refine lv_iload_n hx hb dX7_patternFor_2 rfl (lv_at hl 3 rfl) ?_
    refine lv_aload_n hx hb dX7_patternFor_3 rfl (lv_at hl 0 rfl) ?_
    refine q_get (C := RX7) (T := TX7) (N := 7) hx hb hts iRX7 hown hC.1 (hW.to qLV0) rfl 1 (by decide) (hts (.fieldLink RX7 16 "LogWeave" "patternList" "Ljava/util/ArrayList;") (List.mem_of_getElem? (i := 1) (by decide +kernel))) rfl (v := .ref (ad 1 1)) rfl dX7_patternFor_4 ?_
    refine q_v (va_runV (As := []) (rest := [.int (nI (σ 0 1))]) ⟨hx, hb, hml, hown, hts⟩ (m_size l G (ad 1 1) _ _ (nI (σ 0 1))) (cwV 0 hts gX7_patternFor_Jx4a65c_size_8abf5 rfl rfl rfl (by decide +kernel) ⟨Nat.le_of_ble_eq_true rfl, Nat.le_of_ble_eq_true rfl⟩) ⟨qO.blind, qrecv hC (hW.to (qLV1 (j := 1) (by decide))) rfl, qO.pre hC (hW.lob (by decide))⟩ rfl rfl hl.1 rfl (lv_room (Nat.le_of_ble_eq_true rfl)) dX7_patternFor_7 ⟨Nat.le_of_ble_eq_true rfl, Nat.le_of_ble_eq_true rfl⟩) hS (fun _ h => h.elim) (fun locs hS => ?_)
    refine q_ge (tgt := 53) hx hb (q31 (hB _ _)) (q31 (hB _ _)) dX7_patternFor_10 (by decide) (fun g1 => ?_) (fun g1 => (by omega))
    refine lv_null hx hb dX7_patternFor_53 ?_
    exact W.aret hx hb hr (Or.inl ⟨_, rfl⟩) (Or.inl rfl) (fun t ht _ => ⟨by rw [qFst_none hr9 e_h], ht⟩) hS.2.2 dX7_patternFor_54
  · rintro i _ locs ls hi ⟨rfl, hS, h, e_h, hl⟩ ih
    refine lv_iload_n hx hb dX7_patternFor_2 rfl (lv_at hl 3 rfl) ?_
    refine lv_aload_n hx hb dX7_patternFor_3 rfl (lv_at hl 0 rfl) ?_
    refine q_get (C := RX7) (T := TX7) (N := 7) hx hb hts iRX7 hown hC.1 (hW.to qLV0) rfl 1 (by decide) (hts (.fieldLink RX7 16 "LogWeave" "patternList" "Ljava/util/ArrayList;") (List.mem_of_getElem? (i := 1) (by decide +kernel))) rfl (v := .ref (ad 1 1)) rfl dX7_patternFor_4 ?_
    refine q_v (va_runV (As := []) (rest := [.int (nI i)]) ⟨hx, hb, hml, hown, hts⟩ (m_size l G (ad 1 1) _ _ (nI (σ 0 1))) (cwV 0 hts gX7_patternFor_Jx4a65c_size_8abf5 rfl rfl rfl (by decide +kernel) ⟨Nat.le_of_ble_eq_true rfl, Nat.le_of_ble_eq_true rfl⟩) ⟨qO.blind, qrecv hC (hW.to (qLV1 (j := 1) (by decide))) rfl, qO.pre hC (hW.lob (by decide))⟩ rfl rfl hl.1 rfl (lv_room (Nat.le_of_ble_eq_true rfl)) dX7_patternFor_7 ⟨Nat.le_of_ble_eq_true rfl, Nat.le_of_ble_eq_true rfl⟩) hS (fun _ h => h.elim) (fun locs hS => ?_)
    refine q_ge (tgt := 53) hx hb (by omega) (q31 (hB _ _)) dX7_patternFor_10 (by decide) (fun g2 => (by omega)) (fun g2 => ?_)
    refine lv_aload_n hx hb dX7_patternFor_13 rfl (lv_at hl 0 rfl) ?_
    refine q_get (C := RX7) (T := TX7) (N := 7) hx hb hts iRX7 hown hC.1 (hW.to qLV0) rfl 1 (by decide) (hts (.fieldLink RX7 16 "LogWeave" "patternList" "Ljava/util/ArrayList;") (List.mem_of_getElem? (i := 1) (by decide +kernel))) rfl (v := .ref (ad 1 1)) rfl dX7_patternFor_14 ?_
    refine lv_iload_n hx hb dX7_patternFor_17 rfl (lv_at hl 3 rfl) ?_
    refine q_v (va_runV (As := [.int (nI i)]) (rest := []) ⟨hx, hb, hml, hown, hts⟩ (m_get l G (ad 1 1) (ad 2 1) (σ 32 1) (σ 0 1) (fun i => if i < σ 0 1 then some (ad (4 + 2 * 1) i) else none) (.int (nI (σ 16 1))) i (ad 6 i) hi (hF.c 1) (hB _ _) (if_pos hi)) (cwV 1 hts gX7_patternFor_Jx4a65c_get_915e3 rfl rfl rfl (by decide +kernel) ⟨Nat.le_of_ble_eq_true rfl, Nat.le_of_ble_eq_true rfl⟩) ⟨qO.blind, qrecv hC (hW.to (qLV1 (j := 1) (by decide))) rfl, qO.pre hC (hW.list hF (J := 1) (by decide) hi)⟩ rfl rfl hl.1 rfl (lv_room (Nat.le_of_ble_eq_true rfl)) dX7_patternFor_18 ⟨Nat.le_of_ble_eq_true rfl, Nat.le_of_ble_eq_true rfl⟩) hS (fun _ h => h.elim) (fun locs hS => ?_)
    refine va_castS hx hb hown (hts (.classLink RX7 112 "LogWeave$Pattern") (List.mem_of_getElem? (i := 2) (by decide +kernel))) (hC.1.1 7 _ rfl).2 (qrecv hC (hW.to (qLV6 hi)) rfl) dX7_patternFor_21 ?_
    refine lv_astore (lv' := [(4, .ref (ad 6 i)), (0, .ref (ad 0 0)), (1, .int (nI s0)), (2, .ref (wa)), (3, .int (nI i))]) hx hb dX7_patternFor_24 hl (by decide) rfl (fun ls hl => ?_)
    refine lv_aload hx hb dX7_patternFor_26 (lv_at hl 0 rfl) ?_
    refine q_getN (C := RX4) (T := TX4) (N := 4) hx hb hts iRX4 hown hC.1 (hW.to (qLV6 hi)) rfl 3 (by decide) (va_Nw.use rfl (qf_RX7_127 hC)) rfl (v := .int (nI (σ 97 i))) rfl dX7_patternFor_28 ?_
    refine q_ne0 (tgt := 47) hx hb (q31 (hB _ _)) dX7_patternFor_31 (by decide) (fun c2 => ?_) (fun c2 => ?_)
    · skip
      refine lv_iinc (v := nI (i + 1)) (lv' := [(3, .int (nI (i + 1))), (4, .ref (ad 6 i)), (0, .ref (ad 0 0)), (1, .int (nI s0)), (2, .ref (wa))]) hx hb dX7_patternFor_47 hl (k := 4) rfl (nI_1 i) (by decide) rfl (fun ls hl => ?_)
      refine lv_goto (tgt := 2) hx hb dX7_patternFor_50 (by decide) ?_
      exact ih _ locs ls ⟨rfl, hS, (), fun j hj => (Nat.lt_succ_iff_lt_or_eq.mp hj).elim (e_h j) (fun z => by rw [z]; exact fun h => c2 h.1), lv_sub hl [2, 3, 4, 0] rfl⟩
    · skip
      refine lv_aload hx hb dX7_patternFor_34 (lv_at hl 0 rfl) ?_
      refine lv_iload_n hx hb dX7_patternFor_36 rfl (lv_at hl 2 rfl) ?_
      refine lv_aload_n hx hb dX7_patternFor_37 rfl (lv_at hl 3 rfl) ?_
      refine q_v (va_runVN (C := RX4) (As := [.int (nI s0), .ref (wa)]) (rest := []) ⟨hx, hb, hml, hown, hts⟩ (m_suits l G (ad 6 i) (ad 7 i) wa (σ 96 i) s0 (fun k => σ (112 + k) i) x _ _ (hB _ _) hs0 (fun _ => hB _ _) hx0) ⟨va_cnB 2 hts gX7_patternFor_X4_suits_n313 rfl rfl rfl (qm_RX7_313 hC) (hts (.initialized RX4) (List.mem_of_getElem? (i := 27) (by decide +kernel))) (by decide +kernel) ⟨Nat.le_of_ble_eq_true rfl, Nat.le_of_ble_eq_true rfl⟩, (hts (.instanceMethod yX4_suits) (List.mem_of_getElem? (i := 26) (by decide +kernel))), (hts (.selects RX4 yX4_suits yX4_suits) (List.mem_of_getElem? (i := 28) (by decide +kernel)))⟩ ⟨qO.blind, qrecv hC (hW.to (qLV6 hi)) rfl, qO.pre hC (va_P3 (hW.to (qLV6 hi)) (hW.to (qLV7 hi)) hwa)⟩ rfl rfl hl.1 rfl (lv_room (Nat.le_of_ble_eq_true rfl)) dX7_patternFor_38 ⟨Nat.le_of_ble_eq_true rfl, Nat.le_of_ble_eq_true rfl⟩) hS (fun _ h => h.elim) (fun locs hS => ?_)
      refine q_eq0 (tgt := 47) hx hb q_31B dX7_patternFor_41 (by decide) (fun c3 => ?_) (fun c3 => ?_)
      · skip
        refine lv_iinc (v := nI (i + 1)) (lv' := [(3, .int (nI (i + 1))), (4, .ref (ad 6 i)), (0, .ref (ad 0 0)), (1, .int (nI s0)), (2, .ref (wa))]) hx hb dX7_patternFor_47 hl (k := 4) rfl (nI_1 i) (by decide) rfl (fun ls hl => ?_)
        refine lv_goto (tgt := 2) hx hb dX7_patternFor_50 (by decide) ?_
        exact ih _ locs ls ⟨rfl, hS, (), fun j hj => (Nat.lt_succ_iff_lt_or_eq.mp hj).elim (e_h j) (fun z => by rw [z]; exact fun h => by rw [qB_t h.2] at c3; exact absurd c3 (by decide)), lv_sub hl [2, 3, 4, 0] rfl⟩
      · skip
        refine lv_aload hx hb dX7_patternFor_44 (lv_at hl 0 rfl) ?_
        exact W.aret hx hb hr (Or.inl ⟨_, rfl⟩) (Or.inr ⟨_, rfl⟩) (fun t ht _ => ⟨by rw [qFst_some hr9 hi ⟨c2, Classical.byContradiction fun h => c3 (qB_f h)⟩ e_h], ht⟩) hS.2.2 dX7_patternFor_46
set_option maxHeartbeats 4000000 in
set_option maxRecDepth 100000 in
theorem m_partnerOf (l : Launch) (G : QG) (es : Nat) (A : Nat → Prop) (σ ad : QSt) (hF : qWF σ) (p0 : Nat) (hp0 : p0 < σ 0 1) (r : Option Nat) (hr9 : qFst (fun q => σ 97 q = 0 ∧ σ 96 q = σ 96 p0 ∧ qdf (fun k => σ (112 + k) q) (fun k => σ (112 + k) p0) 3 = 1) (σ 0 1) r) : Met l yX7_partnerOf wsX7_partnerOf ({ frames := 3, cells := 0, slots := 0, locals := 64 } : Room) (qR G es A σ ad [.ref (ad 0 0), .ref (ad 6 p0)]) (qPV (some (qrf (ad 6) r))) 0 0 (fun _ => False) := by
  refine Met.ofW (cc := cX7_partnerOf) (maxL := 4) (ret := (some (.object "LogWeave$Pattern"))) (by decide) rfl ?_
  intro p e s m args below meth c s₁ B hml hv
  obtain ⟨rfl, hC, hW⟩ := hv
  have hx := B.exec
  have hb := B.bytes
  have hr := B.returns
  have hts := atoms_spec (ws := wsX7_partnerOf) B.pre
  have hown : s.vm.findClass RX7 = some m.cls := findClass_of_methodNamed B.named
  have hlocks := B.notSynchronized
  have hB := hF.1
  have hn := hF.n
  have hS : va_S (fun _ => False) s.heap s.heap [] := va_S.rf
  have hl := lv_entry ([.ref (ad 0 0), .ref (ad 6 p0)]) (n := 4) (Nat.le_of_ble_eq_true rfl)
  rw [lg_entry_eq]
  generalize (lg_sl ([.ref (ad 0 0), .ref (ad 6 p0)]) ++ List.replicate (4 - (lg_sl ([.ref (ad 0 0), .ref (ad 6 p0)])).length) Slot.unset).toArray = ls at hl ⊢
  have hl : lv_has ls 4 [(0, .ref (ad 0 0)), (1, .ref (ad 6 p0))] := hl
  have iRX7 : ∀ w ∈ wsX70, w ∈ wsX7_partnerOf := by decide +kernel
  have iRX4 : ∀ w ∈ wsX40, w ∈ wsX7_partnerOf := by decide +kernel
  refine lv_iconst (v := nI 0) hx hb dX7_partnerOf_0 (by decide) ?_
  refine lv_istore_n (lv' := [(2, .int (nI 0)), (0, .ref (ad 0 0)), (1, .ref (ad 6 p0))]) hx hb dX7_partnerOf_1 rfl hl (by decide) rfl (fun ls hl => ?_)
  refine q_up (σ 0 1) (fun i H locs ls => H = s.heap ∧ va_S (fun _ => False) s.heap H locs ∧ ∃ (h : Unit), (∀ j, j < i → ¬ (σ 97 j = 0 ∧ σ 96 j = σ 96 p0 ∧ qdf (fun k => σ (112 + k) j) (fun k => σ (112 + k) p0) 3 = 1)) ∧ lv_has ls 4 [(0, .ref (ad 0 0)), (1, .ref (ad 6 p0)), (2, .int (nI i))]) ?_ ?_ (i0 := 0) (Nat.zero_le _) ⟨rfl, hS, (), fun j hj => absurd hj (by omega), lv_sub hl [1, 2, 0] rfl⟩
  · rintro _ locs ls ⟨rfl, hS, h, e_h, hl⟩
    refine lv_iload_n hx hb dX7_partnerOf_2 rfl (lv_at hl 2 rfl) ?_
    refine lv_aload_n hx hb dX7_partnerOf_3 rfl (lv_at hl 0 rfl) ?_
    refine q_get (C := RX7) (T := TX7) (N := 7) hx hb hts iRX7 hown hC.1 (hW.to qLV0) rfl 1 (by decide) (hts (.fieldLink RX7 16 "LogWeave" "patternList" "Ljava/util/ArrayList;") (List.mem_of_getElem? (i := 1) (by decide +kernel))) rfl (v := .ref (ad 1 1)) rfl dX7_partnerOf_4 ?_
    refine q_v (va_runV (As := []) (rest := [.int (nI (σ 0 1))]) ⟨hx, hb, hml, hown, hts⟩ (m_size l G (ad 1 1) _ _ (nI (σ 0 1))) (cwV 0 hts gX7_partnerOf_Jx4a65c_size_8abf5 rfl rfl rfl (by decide +kernel) ⟨Nat.le_of_ble_eq_true rfl, Nat.le_of_ble_eq_true rfl⟩) ⟨qO.blind, qrecv hC (hW.to (qLV1 (j := 1) (by decide))) rfl, qO.pre hC (hW.lob (by decide))⟩ rfl rfl hl.1 rfl (lv_room (Nat.le_of_ble_eq_true rfl)) dX7_partnerOf_7 ⟨Nat.le_of_ble_eq_true rfl, Nat.le_of_ble_eq_true rfl⟩) hS (fun _ h => h.elim) (fun locs hS => ?_)
    refine q_ge (tgt := 66) hx hb (q31 (hB _ _)) (q31 (hB _ _)) dX7_partnerOf_10 (by decide) (fun g1 => ?_) (fun g1 => (by omega))
    refine lv_null hx hb dX7_partnerOf_66 ?_
    exact W.aret hx hb hr (Or.inl ⟨_, rfl⟩) (Or.inl rfl) (fun t ht _ => ⟨by rw [qFst_none hr9 e_h], ht⟩) hS.2.2 dX7_partnerOf_67
  · rintro i _ locs ls hi ⟨rfl, hS, h, e_h, hl⟩ ih
    refine lv_iload_n hx hb dX7_partnerOf_2 rfl (lv_at hl 2 rfl) ?_
    refine lv_aload_n hx hb dX7_partnerOf_3 rfl (lv_at hl 0 rfl) ?_
    refine q_get (C := RX7) (T := TX7) (N := 7) hx hb hts iRX7 hown hC.1 (hW.to qLV0) rfl 1 (by decide) (hts (.fieldLink RX7 16 "LogWeave" "patternList" "Ljava/util/ArrayList;") (List.mem_of_getElem? (i := 1) (by decide +kernel))) rfl (v := .ref (ad 1 1)) rfl dX7_partnerOf_4 ?_
    refine q_v (va_runV (As := []) (rest := [.int (nI i)]) ⟨hx, hb, hml, hown, hts⟩ (m_size l G (ad 1 1) _ _ (nI (σ 0 1))) (cwV 0 hts gX7_partnerOf_Jx4a65c_size_8abf5 rfl rfl rfl (by decide +kernel) ⟨Nat.le_of_ble_eq_true rfl, Nat.le_of_ble_eq_true rfl⟩) ⟨qO.blind, qrecv hC (hW.to (qLV1 (j := 1) (by decide))) rfl, qO.pre hC (hW.lob (by decide))⟩ rfl rfl hl.1 rfl (lv_room (Nat.le_of_ble_eq_true rfl)) dX7_partnerOf_7 ⟨Nat.le_of_ble_eq_true rfl, Nat.le_of_ble_eq_true rfl⟩) hS (fun _ h => h.elim) (fun locs hS => ?_)
    refine q_ge (tgt := 66) hx hb (by omega) (q31 (hB _ _)) dX7_partnerOf_10 (by decide) (fun g2 => (by omega)) (fun g2 => ?_)
    refine lv_aload_n hx hb dX7_partnerOf_13 rfl (lv_at hl 0 rfl) ?_
    refine q_get (C := RX7) (T := TX7) (N := 7) hx hb hts iRX7 hown hC.1 (hW.to qLV0) rfl 1 (by decide) (hts (.fieldLink RX7 16 "LogWeave" "patternList" "Ljava/util/ArrayList;") (List.mem_of_getElem? (i := 1) (by decide +kernel))) rfl (v := .ref (ad 1 1)) rfl dX7_partnerOf_14 ?_
    refine lv_iload_n hx hb dX7_partnerOf_17 rfl (lv_at hl 2 rfl) ?_
    refine q_v (va_runV (As := [.int (nI i)]) (rest := []) ⟨hx, hb, hml, hown, hts⟩ (m_get l G (ad 1 1) (ad 2 1) (σ 32 1) (σ 0 1) (fun i => if i < σ 0 1 then some (ad (4 + 2 * 1) i) else none) (.int (nI (σ 16 1))) i (ad 6 i) hi (hF.c 1) (hB _ _) (if_pos hi)) (cwV 1 hts gX7_partnerOf_Jx4a65c_get_915e3 rfl rfl rfl (by decide +kernel) ⟨Nat.le_of_ble_eq_true rfl, Nat.le_of_ble_eq_true rfl⟩) ⟨qO.blind, qrecv hC (hW.to (qLV1 (j := 1) (by decide))) rfl, qO.pre hC (hW.list hF (J := 1) (by decide) hi)⟩ rfl rfl hl.1 rfl (lv_room (Nat.le_of_ble_eq_true rfl)) dX7_partnerOf_18 ⟨Nat.le_of_ble_eq_true rfl, Nat.le_of_ble_eq_true rfl⟩) hS (fun _ h => h.elim) (fun locs hS => ?_)
    refine va_castS hx hb hown (hts (.classLink RX7 112 "LogWeave$Pattern") (List.mem_of_getElem? (i := 2) (by decide +kernel))) (hC.1.1 7 _ rfl).2 (qrecv hC (hW.to (qLV6 hi)) rfl) dX7_partnerOf_21 ?_
    refine lv_astore_n (lv' := [(3, .ref (ad 6 i)), (0, .ref (ad 0 0)), (1, .ref (ad 6 p0)), (2, .int (nI i))]) hx hb dX7_partnerOf_24 rfl hl (by decide) rfl (fun ls hl => ?_)
    refine lv_aload_n hx hb dX7_partnerOf_25 rfl (lv_at hl 0 rfl) ?_
    refine q_getN (C := RX4) (T := TX4) (N := 4) hx hb hts iRX4 hown hC.1 (hW.to (qLV6 hi)) rfl 3 (by decide) (va_Nw.use rfl (qf_RX7_127 hC)) rfl (v := .int (nI (σ 97 i))) rfl dX7_partnerOf_26 ?_
    refine q_ne0 (tgt := 60) hx hb (q31 (hB _ _)) dX7_partnerOf_29 (by decide) (fun c2 => ?_) (fun c2 => ?_)
    · skip
      refine lv_iinc (v := nI (i + 1)) (lv' := [(2, .int (nI (i + 1))), (3, .ref (ad 6 i)), (0, .ref (ad 0 0)), (1, .ref (ad 6 p0))]) hx hb dX7_partnerOf_60 hl (k := 3) rfl (nI_1 i) (by decide) rfl (fun ls hl => ?_)
      refine lv_goto (tgt := 2) hx hb dX7_partnerOf_63 (by decide) ?_
      exact ih _ locs ls ⟨rfl, hS, (), fun j hj => (Nat.lt_succ_iff_lt_or_eq.mp hj).elim (e_h j) (fun z => by rw [z]; exact fun h => c2 h.1), lv_sub hl [2, 3, 0] rfl⟩
    · skip
      refine lv_aload_n hx hb dX7_partnerOf_32 rfl (lv_at hl 0 rfl) ?_
      refine q_getN (C := RX4) (T := TX4) (N := 4) hx hb hts iRX4 hown hC.1 (hW.to (qLV6 hi)) rfl 1 (by decide) (va_Nw.use rfl (qf_RX7_124 hC)) rfl (v := .int (nI (σ 96 i))) rfl dX7_partnerOf_33 ?_
      refine lv_aload_n hx hb dX7_partnerOf_36 rfl (lv_at hl 2 rfl) ?_
      refine q_getN (C := RX4) (T := TX4) (N := 4) hx hb hts iRX4 hown hC.1 (hW.to (qLV6 hp0)) rfl 1 (by decide) (va_Nw.use rfl (qf_RX7_124 hC)) rfl (v := .int (nI (σ 96 p0))) rfl dX7_partnerOf_37 ?_
      refine q_ne (tgt := 60) hx hb (q31 (hB _ _)) (q31 (hB _ _)) dX7_partnerOf_40 (by decide) (fun c3 => ?_) (fun c3 => ?_)
      · skip
        refine lv_iinc (v := nI (i + 1)) (lv' := [(2, .int (nI (i + 1))), (3, .ref (ad 6 i)), (0, .ref (ad 0 0)), (1, .ref (ad 6 p0))]) hx hb dX7_partnerOf_60 hl (k := 3) rfl (nI_1 i) (by decide) rfl (fun ls hl => ?_)
        refine lv_goto (tgt := 2) hx hb dX7_partnerOf_63 (by decide) ?_
        exact ih _ locs ls ⟨rfl, hS, (), fun j hj => (Nat.lt_succ_iff_lt_or_eq.mp hj).elim (e_h j) (fun z => by rw [z]; exact fun h => c3 h.2.1), lv_sub hl [2, 3, 0] rfl⟩
      · skip
        refine lv_aload_n hx hb dX7_partnerOf_43 rfl (lv_at hl 0 rfl) ?_
        refine q_getN (C := RX4) (T := TX4) (N := 4) hx hb hts iRX4 hown hC.1 (hW.to (qLV6 hi)) rfl 2 (by decide) (va_Nw.use rfl (qf_RX7_138 hC)) rfl (v := .ref (ad 7 i)) rfl dX7_partnerOf_44 ?_
        refine lv_aload_n hx hb dX7_partnerOf_47 rfl (lv_at hl 2 rfl) ?_
        refine q_getN (C := RX4) (T := TX4) (N := 4) hx hb hts iRX4 hown hC.1 (hW.to (qLV6 hp0)) rfl 2 (by decide) (va_Nw.use rfl (qf_RX7_138 hC)) rfl (v := .ref (ad 7 p0)) rfl dX7_partnerOf_48 ?_
        refine q_v (va_runVN (C := RX6) (As := [.ref (ad 7 p0)]) (rest := []) ⟨hx, hb, hml, hown, hts⟩ (m_differences l G (ad 7 i) (ad 7 p0) (fun k => σ (112 + k) i) (fun k => σ (112 + k) p0) (fun _ => hB _ _) (fun _ => hB _ _)) ⟨va_cnB 1 hts gX7_partnerOf_X6_differences_n337 rfl rfl rfl (qm_RX7_337 hC) (hts (.initialized RX6) (List.mem_of_getElem? (i := 27) (by decide +kernel))) (by decide +kernel) ⟨Nat.le_of_ble_eq_true rfl, Nat.le_of_ble_eq_true rfl⟩, (hts (.instanceMethod yX6_differences) (List.mem_of_getElem? (i := 26) (by decide +kernel))), (hts (.selects RX6 yX6_differences yX6_differences) (List.mem_of_getElem? (i := 28) (by decide +kernel)))⟩ ⟨qO.blind, qrecv hC (hW.to (qLV7 hi)) rfl, qO.pre hC (va_P2 (hW.to (qLV7 hi)) (hW.to (qLV7 hp0)))⟩ rfl rfl hl.1 rfl (lv_room (Nat.le_of_ble_eq_true rfl)) dX7_partnerOf_51 ⟨Nat.le_of_ble_eq_true rfl, Nat.le_of_ble_eq_true rfl⟩) hS (fun _ h => h.elim) (fun locs hS => ?_)
        have h9 := qdf_le (fun k => σ (112 + k) i) (fun k => σ (112 + k) p0) 3
        refine lv_iconst (v := nI 1) hx hb dX7_partnerOf_54 (by decide) ?_
        refine q_ne (tgt := 60) hx hb (by omega) (by decide) dX7_partnerOf_55 (by decide) (fun c4 => ?_) (fun c4 => ?_)
        · skip
          refine lv_iinc (v := nI (i + 1)) (lv' := [(2, .int (nI (i + 1))), (3, .ref (ad 6 i)), (0, .ref (ad 0 0)), (1, .ref (ad 6 p0))]) hx hb dX7_partnerOf_60 hl (k := 3) rfl (nI_1 i) (by decide) rfl (fun ls hl => ?_)
          refine lv_goto (tgt := 2) hx hb dX7_partnerOf_63 (by decide) ?_
          exact ih _ locs ls ⟨rfl, hS, (), fun j hj => (Nat.lt_succ_iff_lt_or_eq.mp hj).elim (e_h j) (fun z => by rw [z]; exact fun h => c4 h.2.2), lv_sub hl [2, 3, 0] rfl⟩
        · skip
          refine lv_aload_n hx hb dX7_partnerOf_58 rfl (lv_at hl 0 rfl) ?_
          exact W.aret hx hb hr (Or.inl ⟨_, rfl⟩) (Or.inr ⟨_, rfl⟩) (fun t ht _ => ⟨by rw [qFst_some hr9 hi ⟨c2, c3, c4⟩ e_h], ht⟩) hS.2.2 dX7_partnerOf_59
set_option maxHeartbeats 4000000 in
set_option maxRecDepth 100000 in
theorem m_hasLine (l : Launch) (G : QG) (es : Nat) (A : Nat → Prop) (σ ad : QSt) (hF : qWF σ) (f : Nat) (hf : f < σ 0 3) (l0 : Nat) (hl0 : l0 < 256) : Met l yX2_hasLine wsX2_hasLine ({ frames := 0, cells := 0, slots := 0, locals := 0 } : Room) (qR G es A σ ad [.ref (ad 10 f), .int (nI l0)]) (qPV (some (.int (nI (qB (σ (1000 + f) l0 = 1)))))) 0 0 (fun _ => False) := by
  refine Met.ofW (cc := cX2_hasLine) (maxL := 2) (ret := (some .boolean)) (by decide) rfl ?_
  intro p e s m args below meth c s₁ B hml hv
  obtain ⟨rfl, hC, hW⟩ := hv
  have hx := B.exec
  have hb := B.bytes
  have hr := B.returns
  have hts := atoms_spec (ws := wsX2_hasLine) B.pre
  have hown : s.vm.findClass RX2 = some m.cls := findClass_of_methodNamed B.named
  have hlocks := B.notSynchronized
  have hB := hF.1
  have hn := hF.n
  have hS : va_S (fun _ => False) s.heap s.heap [] := va_S.rf
  have hl := lv_entry ([.ref (ad 10 f), .int (nI l0)]) (n := 2) (Nat.le_of_ble_eq_true rfl)
  rw [lg_entry_eq]
  generalize (lg_sl ([.ref (ad 10 f), .int (nI l0)]) ++ List.replicate (2 - (lg_sl ([.ref (ad 10 f), .int (nI l0)])).length) Slot.unset).toArray = ls at hl ⊢
  have hl : lv_has ls 2 [(0, .ref (ad 10 f)), (1, .int (nI l0))] := hl
  have iRX2 : ∀ w ∈ wsX20, w ∈ wsX2_hasLine := by decide +kernel
  refine lv_iload_n hx hb dX2_hasLine_0 rfl (lv_at hl 1 rfl) ?_
  refine q_lt0 (tgt := 16) hx hb (by omega) dX2_hasLine_1 (by decide) (fun g1 => g1.elim) (fun g1 => ?_)
  refine lv_iload_n hx hb dX2_hasLine_4 rfl (lv_at hl 1 rfl) ?_
  refine lv_bipush (v := nI 64) hx hb dX2_hasLine_5 (by decide) ?_
  refine lv_idiv hx hb dX2_hasLine_7 (by decide) ?_
  refine q_ti (pk_div (by omega) (by decide) (by decide)) ?_
  refine lv_aload_n hx hb dX2_hasLine_8 rfl (lv_at hl 0 rfl) ?_
  refine q_get (C := RX2) (T := TX2) (N := 5) hx hb hts iRX2 hown hC.1 (hW.to (qLV10 hf)) rfl 4 (by decide) (hts (.fieldLink RX2 9 "LogWeave$Firing" "onLines" "[J") (List.mem_of_getElem? (i := 1) (by decide +kernel))) rfl (v := .ref (ad 11 f)) rfl dX2_hasLine_9 ?_
  refine va_alen hx hb hC.1 (va_P1 (hW.to (qLV11 hf))) 0 2 rfl rfl (v := nI 4) rfl dX2_hasLine_12 ?_
  refine q_lt (tgt := 18) hx hb (by omega) (by decide) dX2_hasLine_13 (by decide) (fun g2 => ?_) (fun g2 => (by omega))
  refine lv_aload_n hx hb dX2_hasLine_18 rfl (lv_at hl 0 rfl) ?_
  refine q_get (C := RX2) (T := TX2) (N := 5) hx hb hts iRX2 hown hC.1 (hW.to (qLV10 hf)) rfl 4 (by decide) (hts (.fieldLink RX2 9 "LogWeave$Firing" "onLines" "[J") (List.mem_of_getElem? (i := 1) (by decide +kernel))) rfl (v := .ref (ad 11 f)) rfl dX2_hasLine_19 ?_
  refine lv_iload_n hx hb dX2_hasLine_22 rfl (lv_at hl 1 rfl) ?_
  refine lv_bipush (v := nI 64) hx hb dX2_hasLine_23 (by decide) ?_
  refine lv_idiv hx hb dX2_hasLine_25 (by decide) ?_
  refine q_ti (pk_div (by omega) (by decide) (by decide)) ?_
  refine va_lald hx hb hC.1 (va_P1 (hW.to (qLV11 hf))) 0 2 rfl rfl (vp_in_nI (by omega) (by decide)) dX2_hasLine_26 ?_
  refine q_tl (y := qbits (σ (1000 + f)) 64 (l0 / 64)) (by rw [nI_clamp (by omega)]) ?_
  refine lv_iload_n hx hb dX2_hasLine_27 rfl (lv_at hl 1 rfl) ?_
  refine lv_bipush (v := nI 64) hx hb dX2_hasLine_28 (by decide) ?_
  refine lv_irem hx hb dX2_hasLine_30 (by decide) ?_
  refine q_ti (pk_rem (by omega) (by decide) (by decide)) ?_
  refine lv_lshr hx hb dX2_hasLine_31 rfl ?_
  refine lv_lconst (v := 1) hx hb dX2_hasLine_32 (by decide) ?_
  refine lv_land hx hb dX2_hasLine_33 ?_
  refine lv_lconst (v := 1) hx hb dX2_hasLine_34 (by decide) ?_
  refine W.lcmp hx hb dX2_hasLine_35 ?_
  by_cases c3 : σ (1000 + f) l0 = 1
  · skip
    refine q_ti (y := nI 0) ((q_mark (by decide) (by decide)).trans (if_pos c3)) ?_
    refine q_ne0 (tgt := 43) hx hb (by decide) dX2_hasLine_36 (by decide) (fun g3 => (by omega)) (fun g3 => ?_)
    refine lv_iconst (v := nI 1) hx hb dX2_hasLine_39 (by decide) ?_
    refine lv_goto (tgt := 44) hx hb dX2_hasLine_40 (by decide) ?_
    exact W.zret (v := nI 1) hx hb hr rfl (fun t ht _ => ⟨by rw [qB_t c3], ht⟩) hS.2.2 dX2_hasLine_44
  · skip
    refine q_ti (y := -1) ((q_mark (by decide) (by decide)).trans (if_neg c3)) ?_
    refine lv_if_ne (tgt := 43) hx hb dX2_hasLine_36 (by decide) (fun g9 => ?_) (fun g9 => absurd g9 (by decide))
    refine lv_iconst (v := nI 0) hx hb dX2_hasLine_43 (by decide) ?_
    exact W.zret (v := nI 0) hx hb hr rfl (fun t ht _ => ⟨by rw [qB_f c3], ht⟩) hS.2.2 dX2_hasLine_44
set_option maxHeartbeats 4000000 in
set_option maxRecDepth 100000 in
theorem m_someFiringHas0 (l : Launch) (G : QG) (es : Nat) (A : Nat → Prop) (σ ad : QSt) (hF : qWF σ) (l0 : Nat) (hl0 : l0 < 256) (h0 : ∀ f, f < σ 0 3 → σ (1000 + f) l0 ≠ 1) : Met l yX7_someFiringHas wsX7_someFiringHas ({ frames := 3, cells := 0, slots := 0, locals := 64 } : Room) (qR G es A σ ad [.ref (ad 0 0), .int (nI l0)]) (qPV (some (.int (nI 0)))) 0 0 (fun _ => False) := by
  refine Met.ofW (cc := cX7_someFiringHas) (maxL := 3) (ret := (some .boolean)) (by decide) rfl ?_
  intro p e s m args below meth c s₁ B hml hv
  obtain ⟨rfl, hC, hW⟩ := hv
  have hx := B.exec
  have hb := B.bytes
  have hr := B.returns
  have hts := atoms_spec (ws := wsX7_someFiringHas) B.pre
  have hown : s.vm.findClass RX7 = some m.cls := findClass_of_methodNamed B.named
  have hlocks := B.notSynchronized
  have hB := hF.1
  have hn := hF.n
  have hS : va_S (fun _ => False) s.heap s.heap [] := va_S.rf
  have hl := lv_entry ([.ref (ad 0 0), .int (nI l0)]) (n := 3) (Nat.le_of_ble_eq_true rfl)
  rw [lg_entry_eq]
  generalize (lg_sl ([.ref (ad 0 0), .int (nI l0)]) ++ List.replicate (3 - (lg_sl ([.ref (ad 0 0), .int (nI l0)])).length) Slot.unset).toArray = ls at hl ⊢
  have hl : lv_has ls 3 [(0, .ref (ad 0 0)), (1, .int (nI l0))] := hl
  have iRX7 : ∀ w ∈ wsX70, w ∈ wsX7_someFiringHas := by decide +kernel
  refine lv_iconst (v := nI 0) hx hb dX7_someFiringHas_0 (by decide) ?_
  refine lv_istore_n (lv' := [(2, .int (nI 0)), (0, .ref (ad 0 0)), (1, .int (nI l0))]) hx hb dX7_someFiringHas_1 rfl hl (by decide) rfl (fun ls hl => ?_)
  refine q_up (σ 0 3) (fun i H locs ls => H = s.heap ∧ va_S (fun _ => False) s.heap H locs ∧ lv_has ls 3 [(0, .ref (ad 0 0)), (1, .int (nI l0)), (2, .int (nI i))]) ?_ ?_ (i0 := 0) (Nat.zero_le _) ⟨rfl, hS, lv_sub hl [1, 2, 0] rfl⟩
  · rintro _ locs ls ⟨rfl, hS, hl⟩
    refine lv_iload_n hx hb dX7_someFiringHas_2 rfl (lv_at hl 2 rfl) ?_
    refine lv_aload_n hx hb dX7_someFiringHas_3 rfl (lv_at hl 0 rfl) ?_
    refine q_get (C := RX7) (T := TX7) (N := 7) hx hb hts iRX7 hown hC.1 (hW.to qLV0) rfl 3 (by decide) (hts (.fieldLink RX7 22 "LogWeave" "firingList" "Ljava/util/ArrayList;") (List.mem_of_getElem? (i := 1) (by decide +kernel))) rfl (v := .ref (ad 1 3)) rfl dX7_someFiringHas_4 ?_
    refine q_v (va_runV (As := []) (rest := [.int (nI (σ 0 3))]) ⟨hx, hb, hml, hown, hts⟩ (m_size l G (ad 1 3) _ _ (nI (σ 0 3))) (cwV 0 hts gX7_someFiringHas_Jx4a65c_size_8abf5 rfl rfl rfl (by decide +kernel) ⟨Nat.le_of_ble_eq_true rfl, Nat.le_of_ble_eq_true rfl⟩) ⟨qO.blind, qrecv hC (hW.to (qLV1 (j := 3) (by decide))) rfl, qO.pre hC (hW.lob (by decide))⟩ rfl rfl hl.1 rfl (lv_room (Nat.le_of_ble_eq_true rfl)) dX7_someFiringHas_7 ⟨Nat.le_of_ble_eq_true rfl, Nat.le_of_ble_eq_true rfl⟩) hS (fun _ h => h.elim) (fun locs hS => ?_)
    refine q_ge (tgt := 39) hx hb (q31 (hB _ _)) (q31 (hB _ _)) dX7_someFiringHas_10 (by decide) (fun g1 => ?_) (fun g1 => (by omega))
    refine lv_iconst (v := nI 0) hx hb dX7_someFiringHas_39 (by decide) ?_
    exact W.zret (v := nI 0) hx hb hr rfl (fun t ht _ => ⟨rfl, ht⟩) hS.2.2 dX7_someFiringHas_40
  · rintro i _ locs ls hi ⟨rfl, hS, hl⟩ ih
    refine lv_iload_n hx hb dX7_someFiringHas_2 rfl (lv_at hl 2 rfl) ?_
    refine lv_aload_n hx hb dX7_someFiringHas_3 rfl (lv_at hl 0 rfl) ?_
    refine q_get (C := RX7) (T := TX7) (N := 7) hx hb hts iRX7 hown hC.1 (hW.to qLV0) rfl 3 (by decide) (hts (.fieldLink RX7 22 "LogWeave" "firingList" "Ljava/util/ArrayList;") (List.mem_of_getElem? (i := 1) (by decide +kernel))) rfl (v := .ref (ad 1 3)) rfl dX7_someFiringHas_4 ?_
    refine q_v (va_runV (As := []) (rest := [.int (nI i)]) ⟨hx, hb, hml, hown, hts⟩ (m_size l G (ad 1 3) _ _ (nI (σ 0 3))) (cwV 0 hts gX7_someFiringHas_Jx4a65c_size_8abf5 rfl rfl rfl (by decide +kernel) ⟨Nat.le_of_ble_eq_true rfl, Nat.le_of_ble_eq_true rfl⟩) ⟨qO.blind, qrecv hC (hW.to (qLV1 (j := 3) (by decide))) rfl, qO.pre hC (hW.lob (by decide))⟩ rfl rfl hl.1 rfl (lv_room (Nat.le_of_ble_eq_true rfl)) dX7_someFiringHas_7 ⟨Nat.le_of_ble_eq_true rfl, Nat.le_of_ble_eq_true rfl⟩) hS (fun _ h => h.elim) (fun locs hS => ?_)
    refine q_ge (tgt := 39) hx hb (by omega) (q31 (hB _ _)) dX7_someFiringHas_10 (by decide) (fun g2 => (by omega)) (fun g2 => ?_)
    refine lv_aload_n hx hb dX7_someFiringHas_13 rfl (lv_at hl 0 rfl) ?_
    refine q_get (C := RX7) (T := TX7) (N := 7) hx hb hts iRX7 hown hC.1 (hW.to qLV0) rfl 3 (by decide) (hts (.fieldLink RX7 22 "LogWeave" "firingList" "Ljava/util/ArrayList;") (List.mem_of_getElem? (i := 1) (by decide +kernel))) rfl (v := .ref (ad 1 3)) rfl dX7_someFiringHas_14 ?_
    refine lv_iload_n hx hb dX7_someFiringHas_17 rfl (lv_at hl 2 rfl) ?_
    refine q_v (va_runV (As := [.int (nI i)]) (rest := []) ⟨hx, hb, hml, hown, hts⟩ (m_get l G (ad 1 3) (ad 2 3) (σ 32 3) (σ 0 3) (fun i => if i < σ 0 3 then some (ad (4 + 2 * 3) i) else none) (.int (nI (σ 16 3))) i (ad 10 i) hi (hF.c 3) (hB _ _) (if_pos hi)) (cwV 1 hts gX7_someFiringHas_Jx4a65c_get_915e3 rfl rfl rfl (by decide +kernel) ⟨Nat.le_of_ble_eq_true rfl, Nat.le_of_ble_eq_true rfl⟩) ⟨qO.blind, qrecv hC (hW.to (qLV1 (j := 3) (by decide))) rfl, qO.pre hC (hW.list hF (J := 3) (by decide) hi)⟩ rfl rfl hl.1 rfl (lv_room (Nat.le_of_ble_eq_true rfl)) dX7_someFiringHas_18 ⟨Nat.le_of_ble_eq_true rfl, Nat.le_of_ble_eq_true rfl⟩) hS (fun _ h => h.elim) (fun locs hS => ?_)
    refine va_castS hx hb hown (hts (.classLink RX7 228 "LogWeave$Firing") (List.mem_of_getElem? (i := 2) (by decide +kernel))) (hC.1.1 5 _ rfl).2 (qrecv hC (hW.to (qLV10 hi)) rfl) dX7_someFiringHas_21 ?_
    refine lv_iload_n hx hb dX7_someFiringHas_24 rfl (lv_at hl 1 rfl) ?_
    refine q_v (va_runVN (C := RX2) (As := [.int (nI l0)]) (rest := []) ⟨hx, hb, hml, hown, hts⟩ (m_hasLine l G es A σ ad hF i hi l0 hl0) ⟨va_cnB 1 hts gX7_someFiringHas_X2_hasLine_n239 rfl rfl rfl (qm_RX7_239 hC) (hts (.initialized RX2) (List.mem_of_getElem? (i := 27) (by decide +kernel))) (by decide +kernel) ⟨Nat.le_of_ble_eq_true rfl, Nat.le_of_ble_eq_true rfl⟩, (hts (.instanceMethod yX2_hasLine) (List.mem_of_getElem? (i := 26) (by decide +kernel))), (hts (.selects RX2 yX2_hasLine yX2_hasLine) (List.mem_of_getElem? (i := 28) (by decide +kernel)))⟩ ⟨qR.blind, qrecv hC (hW.to (qLV10 hi)) rfl, qR.pre hC hW⟩ rfl rfl hl.1 rfl (lv_room (Nat.le_of_ble_eq_true rfl)) dX7_someFiringHas_25 ⟨Nat.le_of_ble_eq_true rfl, Nat.le_of_ble_eq_true rfl⟩) hS (fun _ h => h.elim) (fun locs hS => ?_)
    refine q_eq0 (tgt := 33) hx hb q_31B dX7_someFiringHas_28 (by decide) (fun c3 => ?_) (fun c3 => absurd (qB_f (h0 i hi)) c3)
    refine lv_iinc (v := nI (i + 1)) (lv' := [(2, .int (nI (i + 1))), (0, .ref (ad 0 0)), (1, .int (nI l0))]) hx hb dX7_someFiringHas_33 hl (k := 2) rfl (nI_1 i) (by decide) rfl (fun ls hl => ?_)
    refine lv_goto (tgt := 2) hx hb dX7_someFiringHas_36 (by decide) ?_
    exact ih _ locs ls ⟨rfl, hS, lv_sub hl [1, 2, 0] rfl⟩
set_option maxHeartbeats 4000000 in
set_option maxRecDepth 100000 in
theorem m_countsAreSound (l : Launch) (G : QG) (es : Nat) (A : Nat → Prop) (σ ad : QSt) (hF : qWF σ) (h0 : ∀ a, a < σ 0 2 → σ 132 a = qcnt σ a) : Met l yX7_countsAreSound wsX7_countsAreSound ({ frames := 4, cells := 0, slots := 0, locals := 87 } : Room) (qR G es A σ ad [.ref (ad 0 0)]) (qPV (some (.int (nI 1)))) 0 0 (fun _ => False) := by
  refine Met.ofW (cc := cX7_countsAreSound) (maxL := 3) (ret := (some .boolean)) (by decide) rfl ?_
  intro p e s m args below meth c s₁ B hml hv
  obtain ⟨rfl, hC, hW⟩ := hv
  have hx := B.exec
  have hb := B.bytes
  have hr := B.returns
  have hts := atoms_spec (ws := wsX7_countsAreSound) B.pre
  have hown : s.vm.findClass RX7 = some m.cls := findClass_of_methodNamed B.named
  have hlocks := B.notSynchronized
  have hB := hF.1
  have hn := hF.n
  have hS : va_S (fun _ => False) s.heap s.heap [] := va_S.rf
  have hl := lv_entry ([.ref (ad 0 0)]) (n := 3) (Nat.le_of_ble_eq_true rfl)
  rw [lg_entry_eq]
  generalize (lg_sl ([.ref (ad 0 0)]) ++ List.replicate (3 - (lg_sl ([.ref (ad 0 0)])).length) Slot.unset).toArray = ls at hl ⊢
  have hl : lv_has ls 3 [(0, .ref (ad 0 0))] := hl
  have iRX7 : ∀ w ∈ wsX70, w ∈ wsX7_countsAreSound := by decide +kernel
  have iRX0 : ∀ w ∈ wsX00, w ∈ wsX7_countsAreSound := by decide +kernel
  refine lv_iconst (v := nI 0) hx hb dX7_countsAreSound_0 (by decide) ?_
  refine lv_istore_n (lv' := [(1, .int (nI 0)), (0, .ref (ad 0 0))]) hx hb dX7_countsAreSound_1 rfl hl (by decide) rfl (fun ls hl => ?_)
  refine q_up (σ 0 2) (fun i H locs ls => H = s.heap ∧ va_S (fun _ => False) s.heap H locs ∧ lv_has ls 3 [(0, .ref (ad 0 0)), (1, .int (nI i))]) ?_ ?_ (i0 := 0) (Nat.zero_le _) ⟨rfl, hS, lv_sub hl [1, 0] rfl⟩
  · rintro _ locs ls ⟨rfl, hS, hl⟩
    refine lv_iload_n hx hb dX7_countsAreSound_2 rfl (lv_at hl 1 rfl) ?_
    refine lv_aload_n hx hb dX7_countsAreSound_3 rfl (lv_at hl 0 rfl) ?_
    refine q_get (C := RX7) (T := TX7) (N := 7) hx hb hts iRX7 hown hC.1 (hW.to qLV0) rfl 2 (by decide) (hts (.fieldLink RX7 19 "LogWeave" "alertList" "Ljava/util/ArrayList;") (List.mem_of_getElem? (i := 1) (by decide +kernel))) rfl (v := .ref (ad 1 2)) rfl dX7_countsAreSound_4 ?_
    refine q_v (va_runV (As := []) (rest := [.int (nI (σ 0 2))]) ⟨hx, hb, hml, hown, hts⟩ (m_size l G (ad 1 2) _ _ (nI (σ 0 2))) (cwV 0 hts gX7_countsAreSound_Jx4a65c_size_8abf5 rfl rfl rfl (by decide +kernel) ⟨Nat.le_of_ble_eq_true rfl, Nat.le_of_ble_eq_true rfl⟩) ⟨qO.blind, qrecv hC (hW.to (qLV1 (j := 2) (by decide))) rfl, qO.pre hC (hW.lob (by decide))⟩ rfl rfl hl.1 rfl (lv_room (Nat.le_of_ble_eq_true rfl)) dX7_countsAreSound_7 ⟨Nat.le_of_ble_eq_true rfl, Nat.le_of_ble_eq_true rfl⟩) hS (fun _ h => h.elim) (fun locs hS => ?_)
    refine q_ge (tgt := 45) hx hb (q31 (hB _ _)) (q31 (hB _ _)) dX7_countsAreSound_10 (by decide) (fun g1 => ?_) (fun g1 => (by omega))
    refine lv_iconst (v := nI 1) hx hb dX7_countsAreSound_45 (by decide) ?_
    exact W.zret (v := nI 1) hx hb hr rfl (fun t ht _ => ⟨rfl, ht⟩) hS.2.2 dX7_countsAreSound_46
  · rintro i _ locs ls hi ⟨rfl, hS, hl⟩ ih
    refine lv_iload_n hx hb dX7_countsAreSound_2 rfl (lv_at hl 1 rfl) ?_
    refine lv_aload_n hx hb dX7_countsAreSound_3 rfl (lv_at hl 0 rfl) ?_
    refine q_get (C := RX7) (T := TX7) (N := 7) hx hb hts iRX7 hown hC.1 (hW.to qLV0) rfl 2 (by decide) (hts (.fieldLink RX7 19 "LogWeave" "alertList" "Ljava/util/ArrayList;") (List.mem_of_getElem? (i := 1) (by decide +kernel))) rfl (v := .ref (ad 1 2)) rfl dX7_countsAreSound_4 ?_
    refine q_v (va_runV (As := []) (rest := [.int (nI i)]) ⟨hx, hb, hml, hown, hts⟩ (m_size l G (ad 1 2) _ _ (nI (σ 0 2))) (cwV 0 hts gX7_countsAreSound_Jx4a65c_size_8abf5 rfl rfl rfl (by decide +kernel) ⟨Nat.le_of_ble_eq_true rfl, Nat.le_of_ble_eq_true rfl⟩) ⟨qO.blind, qrecv hC (hW.to (qLV1 (j := 2) (by decide))) rfl, qO.pre hC (hW.lob (by decide))⟩ rfl rfl hl.1 rfl (lv_room (Nat.le_of_ble_eq_true rfl)) dX7_countsAreSound_7 ⟨Nat.le_of_ble_eq_true rfl, Nat.le_of_ble_eq_true rfl⟩) hS (fun _ h => h.elim) (fun locs hS => ?_)
    refine q_ge (tgt := 45) hx hb (by omega) (q31 (hB _ _)) dX7_countsAreSound_10 (by decide) (fun g2 => (by omega)) (fun g2 => ?_)
    refine lv_aload_n hx hb dX7_countsAreSound_13 rfl (lv_at hl 0 rfl) ?_
    refine q_get (C := RX7) (T := TX7) (N := 7) hx hb hts iRX7 hown hC.1 (hW.to qLV0) rfl 2 (by decide) (hts (.fieldLink RX7 19 "LogWeave" "alertList" "Ljava/util/ArrayList;") (List.mem_of_getElem? (i := 1) (by decide +kernel))) rfl (v := .ref (ad 1 2)) rfl dX7_countsAreSound_14 ?_
    refine lv_iload_n hx hb dX7_countsAreSound_17 rfl (lv_at hl 1 rfl) ?_
    refine q_v (va_runV (As := [.int (nI i)]) (rest := []) ⟨hx, hb, hml, hown, hts⟩ (m_get l G (ad 1 2) (ad 2 2) (σ 32 2) (σ 0 2) (fun i => if i < σ 0 2 then some (ad (4 + 2 * 2) i) else none) (.int (nI (σ 16 2))) i (ad 8 i) hi (hF.c 2) (hB _ _) (if_pos hi)) (cwV 1 hts gX7_countsAreSound_Jx4a65c_get_915e3 rfl rfl rfl (by decide +kernel) ⟨Nat.le_of_ble_eq_true rfl, Nat.le_of_ble_eq_true rfl⟩) ⟨qO.blind, qrecv hC (hW.to (qLV1 (j := 2) (by decide))) rfl, qO.pre hC (hW.list hF (J := 2) (by decide) hi)⟩ rfl rfl hl.1 rfl (lv_room (Nat.le_of_ble_eq_true rfl)) dX7_countsAreSound_18 ⟨Nat.le_of_ble_eq_true rfl, Nat.le_of_ble_eq_true rfl⟩) hS (fun _ h => h.elim) (fun locs hS => ?_)
    refine va_castS hx hb hown (hts (.classLink RX7 195 "LogWeave$Alert") (List.mem_of_getElem? (i := 2) (by decide +kernel))) (hC.1.1 3 _ rfl).2 (qrecv hC (hW.to (qLV8 hi)) rfl) dX7_countsAreSound_21 ?_
    refine lv_astore_n (lv' := [(2, .ref (ad 8 i)), (0, .ref (ad 0 0)), (1, .int (nI i))]) hx hb dX7_countsAreSound_24 rfl hl (by decide) rfl (fun ls hl => ?_)
    refine lv_aload_n hx hb dX7_countsAreSound_25 rfl (lv_at hl 0 rfl) ?_
    refine q_getN (C := RX0) (T := TX0) (N := 9) hx hb hts iRX0 hown hC.1 (hW.to (qLV8 hi)) rfl 6 (by decide) (va_Nw.use rfl (qf_RX7_213 hC)) rfl (v := .int (nI (σ 132 i))) rfl dX7_countsAreSound_26 ?_
    refine lv_aload_n hx hb dX7_countsAreSound_29 rfl (lv_at hl 1 rfl) ?_
    refine lv_aload_n hx hb dX7_countsAreSound_30 rfl (lv_at hl 0 rfl) ?_
    refine q_v (va_runV (As := [.ref (ad 8 i)]) (rest := [.int (nI (σ 132 i))]) ⟨hx, hb, hml, hown, hts⟩ (m_countFromAllLines l G es A σ ad hF i hi) (cwV 1 hts gX7_countsAreSound_X7_countFromAllLines rfl rfl rfl (by decide +kernel) ⟨Nat.le_of_ble_eq_true rfl, Nat.le_of_ble_eq_true rfl⟩) ⟨qR.blind, qrecv hC (hW.to qLV0) rfl, qR.pre hC hW⟩ rfl rfl hl.1 rfl (lv_room (Nat.le_of_ble_eq_true rfl)) dX7_countsAreSound_31 ⟨Nat.le_of_ble_eq_true rfl, Nat.le_of_ble_eq_true rfl⟩) hS (fun _ h => h.elim) (fun locs hS => ?_)
    refine q_eq (tgt := 39) hx hb (q31 (hB _ _)) (by rw [← h0 i hi]; exact q31 (hB _ _)) dX7_countsAreSound_34 (by decide) (fun c3 => ?_) (fun c3 => absurd (h0 i hi) c3)
    refine lv_iinc (v := nI (i + 1)) (lv' := [(1, .int (nI (i + 1))), (2, .ref (ad 8 i)), (0, .ref (ad 0 0))]) hx hb dX7_countsAreSound_39 hl (k := 2) rfl (nI_1 i) (by decide) rfl (fun ls hl => ?_)
    refine lv_goto (tgt := 2) hx hb dX7_countsAreSound_42 (by decide) ?_
    exact ih _ locs ls ⟨rfl, hS, lv_sub hl [2, 0] rfl⟩
set_option maxHeartbeats 4000000 in
set_option maxRecDepth 100000 in
theorem m_firingsAreSound (l : Launch) (G : QG) (es : Nat) (A : Nat → Prop) (σ ad : QSt) (hF : qWF σ) (h0 : ∀ l0, l0 < σ 0 0 → σ 69 l0 = 100 → ∀ f, f < σ 0 3 → σ (1000 + f) l0 ≠ 1) : Met l yX7_firingsAreSound wsX7_firingsAreSound ({ frames := 4, cells := 0, slots := 0, locals := 86 } : Room) (qR G es A σ ad [.ref (ad 0 0)]) (qPV (some (.int (nI 1)))) 0 0 (fun _ => False) := by
  refine Met.ofW (cc := cX7_firingsAreSound) (maxL := 2) (ret := (some .boolean)) (by decide) rfl ?_
  intro p e s m args below meth c s₁ B hml hv
  obtain ⟨rfl, hC, hW⟩ := hv
  have hx := B.exec
  have hb := B.bytes
  have hr := B.returns
  have hts := atoms_spec (ws := wsX7_firingsAreSound) B.pre
  have hown : s.vm.findClass RX7 = some m.cls := findClass_of_methodNamed B.named
  have hlocks := B.notSynchronized
  have hB := hF.1
  have hn := hF.n
  have hS : va_S (fun _ => False) s.heap s.heap [] := va_S.rf
  have hl := lv_entry ([.ref (ad 0 0)]) (n := 2) (Nat.le_of_ble_eq_true rfl)
  rw [lg_entry_eq]
  generalize (lg_sl ([.ref (ad 0 0)]) ++ List.replicate (2 - (lg_sl ([.ref (ad 0 0)])).length) Slot.unset).toArray = ls at hl ⊢
  have hl : lv_has ls 2 [(0, .ref (ad 0 0))] := hl
  have iRX7 : ∀ w ∈ wsX70, w ∈ wsX7_firingsAreSound := by decide +kernel
  have iRX3 : ∀ w ∈ wsX30, w ∈ wsX7_firingsAreSound := by decide +kernel
  refine lv_iconst (v := nI 0) hx hb dX7_firingsAreSound_0 (by decide) ?_
  refine lv_istore_n (lv' := [(1, .int (nI 0)), (0, .ref (ad 0 0))]) hx hb dX7_firingsAreSound_1 rfl hl (by decide) rfl (fun ls hl => ?_)
  refine q_up (σ 0 0) (fun i H locs ls => H = s.heap ∧ va_S (fun _ => False) s.heap H locs ∧ lv_has ls 2 [(0, .ref (ad 0 0)), (1, .int (nI i))]) ?_ ?_ (i0 := 0) (Nat.zero_le _) ⟨rfl, hS, lv_sub hl [1, 0] rfl⟩
  · rintro _ locs ls ⟨rfl, hS, hl⟩
    refine lv_iload_n hx hb dX7_firingsAreSound_2 rfl (lv_at hl 1 rfl) ?_
    refine lv_aload_n hx hb dX7_firingsAreSound_3 rfl (lv_at hl 0 rfl) ?_
    refine q_get (C := RX7) (T := TX7) (N := 7) hx hb hts iRX7 hown hC.1 (hW.to qLV0) rfl 0 (by decide) (hts (.fieldLink RX7 10 "LogWeave" "lineList" "Ljava/util/ArrayList;") (List.mem_of_getElem? (i := 1) (by decide +kernel))) rfl (v := .ref (ad 1 0)) rfl dX7_firingsAreSound_4 ?_
    refine q_v (va_runV (As := []) (rest := [.int (nI (σ 0 0))]) ⟨hx, hb, hml, hown, hts⟩ (m_size l G (ad 1 0) _ _ (nI (σ 0 0))) (cwV 0 hts gX7_firingsAreSound_Jx4a65c_size_8abf5 rfl rfl rfl (by decide +kernel) ⟨Nat.le_of_ble_eq_true rfl, Nat.le_of_ble_eq_true rfl⟩) ⟨qO.blind, qrecv hC (hW.to (qLV1 (j := 0) (by decide))) rfl, qO.pre hC (hW.lob (by decide))⟩ rfl rfl hl.1 rfl (lv_room (Nat.le_of_ble_eq_true rfl)) dX7_firingsAreSound_7 ⟨Nat.le_of_ble_eq_true rfl, Nat.le_of_ble_eq_true rfl⟩) hS (fun _ h => h.elim) (fun locs hS => ?_)
    refine q_ge (tgt := 48) hx hb (q31 (hB _ _)) (q31 (hB _ _)) dX7_firingsAreSound_10 (by decide) (fun g1 => ?_) (fun g1 => (by omega))
    refine lv_iconst (v := nI 1) hx hb dX7_firingsAreSound_48 (by decide) ?_
    exact W.zret (v := nI 1) hx hb hr rfl (fun t ht _ => ⟨rfl, ht⟩) hS.2.2 dX7_firingsAreSound_49
  · rintro i _ locs ls hi ⟨rfl, hS, hl⟩ ih
    refine lv_iload_n hx hb dX7_firingsAreSound_2 rfl (lv_at hl 1 rfl) ?_
    refine lv_aload_n hx hb dX7_firingsAreSound_3 rfl (lv_at hl 0 rfl) ?_
    refine q_get (C := RX7) (T := TX7) (N := 7) hx hb hts iRX7 hown hC.1 (hW.to qLV0) rfl 0 (by decide) (hts (.fieldLink RX7 10 "LogWeave" "lineList" "Ljava/util/ArrayList;") (List.mem_of_getElem? (i := 1) (by decide +kernel))) rfl (v := .ref (ad 1 0)) rfl dX7_firingsAreSound_4 ?_
    refine q_v (va_runV (As := []) (rest := [.int (nI i)]) ⟨hx, hb, hml, hown, hts⟩ (m_size l G (ad 1 0) _ _ (nI (σ 0 0))) (cwV 0 hts gX7_firingsAreSound_Jx4a65c_size_8abf5 rfl rfl rfl (by decide +kernel) ⟨Nat.le_of_ble_eq_true rfl, Nat.le_of_ble_eq_true rfl⟩) ⟨qO.blind, qrecv hC (hW.to (qLV1 (j := 0) (by decide))) rfl, qO.pre hC (hW.lob (by decide))⟩ rfl rfl hl.1 rfl (lv_room (Nat.le_of_ble_eq_true rfl)) dX7_firingsAreSound_7 ⟨Nat.le_of_ble_eq_true rfl, Nat.le_of_ble_eq_true rfl⟩) hS (fun _ h => h.elim) (fun locs hS => ?_)
    refine q_ge (tgt := 48) hx hb (by omega) (q31 (hB _ _)) dX7_firingsAreSound_10 (by decide) (fun g2 => (by omega)) (fun g2 => ?_)
    refine lv_aload_n hx hb dX7_firingsAreSound_13 rfl (lv_at hl 0 rfl) ?_
    refine q_get (C := RX7) (T := TX7) (N := 7) hx hb hts iRX7 hown hC.1 (hW.to qLV0) rfl 0 (by decide) (hts (.fieldLink RX7 10 "LogWeave" "lineList" "Ljava/util/ArrayList;") (List.mem_of_getElem? (i := 1) (by decide +kernel))) rfl (v := .ref (ad 1 0)) rfl dX7_firingsAreSound_14 ?_
    refine lv_iload_n hx hb dX7_firingsAreSound_17 rfl (lv_at hl 1 rfl) ?_
    refine q_v (va_runV (As := [.int (nI i)]) (rest := []) ⟨hx, hb, hml, hown, hts⟩ (m_get l G (ad 1 0) (ad 2 0) (σ 32 0) (σ 0 0) (fun i => if i < σ 0 0 then some (ad (4 + 2 * 0) i) else none) (.int (nI (σ 16 0))) i (ad 4 i) hi (hF.c 0) (hB _ _) (if_pos hi)) (cwV 1 hts gX7_firingsAreSound_Jx4a65c_get_915e3 rfl rfl rfl (by decide +kernel) ⟨Nat.le_of_ble_eq_true rfl, Nat.le_of_ble_eq_true rfl⟩) ⟨qO.blind, qrecv hC (hW.to (qLV1 (j := 0) (by decide))) rfl, qO.pre hC (hW.list hF (J := 0) (by decide) hi)⟩ rfl rfl hl.1 rfl (lv_room (Nat.le_of_ble_eq_true rfl)) dX7_firingsAreSound_18 ⟨Nat.le_of_ble_eq_true rfl, Nat.le_of_ble_eq_true rfl⟩) hS (fun _ h => h.elim) (fun locs hS => ?_)
    refine va_castS hx hb hown (hts (.classLink RX7 74 "LogWeave$Line") (List.mem_of_getElem? (i := 2) (by decide +kernel))) (hC.1.1 6 _ rfl).2 (qrecv hC (hW.to (qLV4 hi)) rfl) dX7_firingsAreSound_21 ?_
    refine q_getN (C := RX3) (T := TX3) (N := 8) hx hb hts iRX3 hown hC.1 (hW.to (qLV4 hi)) rfl 6 (by decide) (va_Nw.use rfl (qf_RX7_103 hC)) rfl (v := .int (nI (σ 69 i))) rfl dX7_firingsAreSound_24 ?_
    refine lv_bipush (v := nI 100) hx hb dX7_firingsAreSound_27 (by decide) ?_
    refine q_ne (tgt := 42) hx hb (q31 (hB _ _)) (by decide) dX7_firingsAreSound_29 (by decide) (fun c2 => ?_) (fun c2 => ?_)
    · skip
      refine lv_iinc (v := nI (i + 1)) (lv' := [(1, .int (nI (i + 1))), (0, .ref (ad 0 0))]) hx hb dX7_firingsAreSound_42 hl (k := 1) rfl (nI_1 i) (by decide) rfl (fun ls hl => ?_)
      refine lv_goto (tgt := 2) hx hb dX7_firingsAreSound_45 (by decide) ?_
      exact ih _ locs ls ⟨rfl, hS, lv_sub hl [1, 0] rfl⟩
    · skip
      refine lv_aload_n hx hb dX7_firingsAreSound_32 rfl (lv_at hl 0 rfl) ?_
      refine lv_iload_n hx hb dX7_firingsAreSound_33 rfl (lv_at hl 1 rfl) ?_
      refine q_v (va_runV (As := [.int (nI i)]) (rest := []) ⟨hx, hb, hml, hown, hts⟩ (m_someFiringHas0 l G es A σ ad hF i (by omega) (h0 i hi c2)) (cwV 1 hts gX7_firingsAreSound_X7_someFiringHas rfl rfl rfl (by decide +kernel) ⟨Nat.le_of_ble_eq_true rfl, Nat.le_of_ble_eq_true rfl⟩) ⟨qR.blind, qrecv hC (hW.to qLV0) rfl, qR.pre hC hW⟩ rfl rfl hl.1 rfl (lv_room (Nat.le_of_ble_eq_true rfl)) dX7_firingsAreSound_34 ⟨Nat.le_of_ble_eq_true rfl, Nat.le_of_ble_eq_true rfl⟩) hS (fun _ h => h.elim) (fun locs hS => ?_)
      refine q_eq0 (tgt := 42) hx hb (by decide) dX7_firingsAreSound_37 (by decide) (fun g3 => ?_) (fun g3 => (by omega))
      refine lv_iinc (v := nI (i + 1)) (lv' := [(1, .int (nI (i + 1))), (0, .ref (ad 0 0))]) hx hb dX7_firingsAreSound_42 hl (k := 1) rfl (nI_1 i) (by decide) rfl (fun ls hl => ?_)
      refine lv_goto (tgt := 2) hx hb dX7_firingsAreSound_45 (by decide) ?_
      exact ih _ locs ls ⟨rfl, hS, lv_sub hl [1, 0] rfl⟩
set_option maxHeartbeats 4000000 in
set_option maxRecDepth 100000 in
theorem m_patternsAreSound (l : Launch) (G : QG) (es : Nat) (A : Nat → Prop) (σ ad : QSt) (hF : qWF σ) (h0 : ∀ l0, l0 < σ 0 0 → σ 97 (σ 68 l0) = 0 ∧ σ 64 l0 = σ 96 (σ 68 l0) ∧ qft (fun k => σ (112 + k) (σ 68 l0)) (fun k => σ (80 + k) l0)) : Met l yX7_patternsAreSound wsX7_patternsAreSound ({ frames := 3, cells := 0, slots := 0, locals := 64 } : Room) (qR G es A σ ad [.ref (ad 0 0)]) (qPV (some (.int (nI 1)))) 0 0 (fun _ => False) := by
  refine Met.ofW (cc := cX7_patternsAreSound) (maxL := 3) (ret := (some .boolean)) (by decide) rfl ?_
  intro p e s m args below meth c s₁ B hml hv
  obtain ⟨rfl, hC, hW⟩ := hv
  have hx := B.exec
  have hb := B.bytes
  have hr := B.returns
  have hts := atoms_spec (ws := wsX7_patternsAreSound) B.pre
  have hown : s.vm.findClass RX7 = some m.cls := findClass_of_methodNamed B.named
  have hlocks := B.notSynchronized
  have hB := hF.1
  have hn := hF.n
  have hS : va_S (fun _ => False) s.heap s.heap [] := va_S.rf
  have hl := lv_entry ([.ref (ad 0 0)]) (n := 3) (Nat.le_of_ble_eq_true rfl)
  rw [lg_entry_eq]
  generalize (lg_sl ([.ref (ad 0 0)]) ++ List.replicate (3 - (lg_sl ([.ref (ad 0 0)])).length) Slot.unset).toArray = ls at hl ⊢
  have hl : lv_has ls 3 [(0, .ref (ad 0 0))] := hl
  have iRX7 : ∀ w ∈ wsX70, w ∈ wsX7_patternsAreSound := by decide +kernel
  have iRX3 : ∀ w ∈ wsX30, w ∈ wsX7_patternsAreSound := by decide +kernel
  have iRX4 : ∀ w ∈ wsX40, w ∈ wsX7_patternsAreSound := by decide +kernel
  refine lv_iconst (v := nI 0) hx hb dX7_patternsAreSound_0 (by decide) ?_
  refine lv_istore_n (lv' := [(1, .int (nI 0)), (0, .ref (ad 0 0))]) hx hb dX7_patternsAreSound_1 rfl hl (by decide) rfl (fun ls hl => ?_)
  refine q_up (σ 0 0) (fun i H locs ls => H = s.heap ∧ va_S (fun _ => False) s.heap H locs ∧ lv_has ls 3 [(0, .ref (ad 0 0)), (1, .int (nI i))]) ?_ ?_ (i0 := 0) (Nat.zero_le _) ⟨rfl, hS, lv_sub hl [1, 0] rfl⟩
  · rintro _ locs ls ⟨rfl, hS, hl⟩
    refine lv_iload_n hx hb dX7_patternsAreSound_2 rfl (lv_at hl 1 rfl) ?_
    refine lv_aload_n hx hb dX7_patternsAreSound_3 rfl (lv_at hl 0 rfl) ?_
    refine q_get (C := RX7) (T := TX7) (N := 7) hx hb hts iRX7 hown hC.1 (hW.to qLV0) rfl 0 (by decide) (hts (.fieldLink RX7 10 "LogWeave" "lineList" "Ljava/util/ArrayList;") (List.mem_of_getElem? (i := 1) (by decide +kernel))) rfl (v := .ref (ad 1 0)) rfl dX7_patternsAreSound_4 ?_
    refine q_v (va_runV (As := []) (rest := [.int (nI (σ 0 0))]) ⟨hx, hb, hml, hown, hts⟩ (m_size l G (ad 1 0) _ _ (nI (σ 0 0))) (cwV 0 hts gX7_patternsAreSound_Jx4a65c_size_8abf5 rfl rfl rfl (by decide +kernel) ⟨Nat.le_of_ble_eq_true rfl, Nat.le_of_ble_eq_true rfl⟩) ⟨qO.blind, qrecv hC (hW.to (qLV1 (j := 0) (by decide))) rfl, qO.pre hC (hW.lob (by decide))⟩ rfl rfl hl.1 rfl (lv_room (Nat.le_of_ble_eq_true rfl)) dX7_patternsAreSound_7 ⟨Nat.le_of_ble_eq_true rfl, Nat.le_of_ble_eq_true rfl⟩) hS (fun _ h => h.elim) (fun locs hS => ?_)
    refine q_ge (tgt := 61) hx hb (q31 (hB _ _)) (q31 (hB _ _)) dX7_patternsAreSound_10 (by decide) (fun g1 => ?_) (fun g1 => (by omega))
    refine lv_iconst (v := nI 1) hx hb dX7_patternsAreSound_61 (by decide) ?_
    exact W.zret (v := nI 1) hx hb hr rfl (fun t ht _ => ⟨rfl, ht⟩) hS.2.2 dX7_patternsAreSound_62
  · rintro i _ locs ls hi ⟨rfl, hS, hl⟩ ih
    refine lv_iload_n hx hb dX7_patternsAreSound_2 rfl (lv_at hl 1 rfl) ?_
    refine lv_aload_n hx hb dX7_patternsAreSound_3 rfl (lv_at hl 0 rfl) ?_
    refine q_get (C := RX7) (T := TX7) (N := 7) hx hb hts iRX7 hown hC.1 (hW.to qLV0) rfl 0 (by decide) (hts (.fieldLink RX7 10 "LogWeave" "lineList" "Ljava/util/ArrayList;") (List.mem_of_getElem? (i := 1) (by decide +kernel))) rfl (v := .ref (ad 1 0)) rfl dX7_patternsAreSound_4 ?_
    refine q_v (va_runV (As := []) (rest := [.int (nI i)]) ⟨hx, hb, hml, hown, hts⟩ (m_size l G (ad 1 0) _ _ (nI (σ 0 0))) (cwV 0 hts gX7_patternsAreSound_Jx4a65c_size_8abf5 rfl rfl rfl (by decide +kernel) ⟨Nat.le_of_ble_eq_true rfl, Nat.le_of_ble_eq_true rfl⟩) ⟨qO.blind, qrecv hC (hW.to (qLV1 (j := 0) (by decide))) rfl, qO.pre hC (hW.lob (by decide))⟩ rfl rfl hl.1 rfl (lv_room (Nat.le_of_ble_eq_true rfl)) dX7_patternsAreSound_7 ⟨Nat.le_of_ble_eq_true rfl, Nat.le_of_ble_eq_true rfl⟩) hS (fun _ h => h.elim) (fun locs hS => ?_)
    refine q_ge (tgt := 61) hx hb (by omega) (q31 (hB _ _)) dX7_patternsAreSound_10 (by decide) (fun g2 => (by omega)) (fun g2 => ?_)
    refine lv_aload_n hx hb dX7_patternsAreSound_13 rfl (lv_at hl 0 rfl) ?_
    refine q_get (C := RX7) (T := TX7) (N := 7) hx hb hts iRX7 hown hC.1 (hW.to qLV0) rfl 0 (by decide) (hts (.fieldLink RX7 10 "LogWeave" "lineList" "Ljava/util/ArrayList;") (List.mem_of_getElem? (i := 1) (by decide +kernel))) rfl (v := .ref (ad 1 0)) rfl dX7_patternsAreSound_14 ?_
    refine lv_iload_n hx hb dX7_patternsAreSound_17 rfl (lv_at hl 1 rfl) ?_
    refine q_v (va_runV (As := [.int (nI i)]) (rest := []) ⟨hx, hb, hml, hown, hts⟩ (m_get l G (ad 1 0) (ad 2 0) (σ 32 0) (σ 0 0) (fun i => if i < σ 0 0 then some (ad (4 + 2 * 0) i) else none) (.int (nI (σ 16 0))) i (ad 4 i) hi (hF.c 0) (hB _ _) (if_pos hi)) (cwV 1 hts gX7_patternsAreSound_Jx4a65c_get_915e3 rfl rfl rfl (by decide +kernel) ⟨Nat.le_of_ble_eq_true rfl, Nat.le_of_ble_eq_true rfl⟩) ⟨qO.blind, qrecv hC (hW.to (qLV1 (j := 0) (by decide))) rfl, qO.pre hC (hW.list hF (J := 0) (by decide) hi)⟩ rfl rfl hl.1 rfl (lv_room (Nat.le_of_ble_eq_true rfl)) dX7_patternsAreSound_18 ⟨Nat.le_of_ble_eq_true rfl, Nat.le_of_ble_eq_true rfl⟩) hS (fun _ h => h.elim) (fun locs hS => ?_)
    refine va_castS hx hb hown (hts (.classLink RX7 74 "LogWeave$Line") (List.mem_of_getElem? (i := 2) (by decide +kernel))) (hC.1.1 6 _ rfl).2 (qrecv hC (hW.to (qLV4 hi)) rfl) dX7_patternsAreSound_21 ?_
    have hp := hF.pat hi
    refine lv_astore_n (lv' := [(2, .ref (ad 4 i)), (0, .ref (ad 0 0)), (1, .int (nI i))]) hx hb dX7_patternsAreSound_24 rfl hl (by decide) rfl (fun ls hl => ?_)
    refine lv_aload_n hx hb dX7_patternsAreSound_25 rfl (lv_at hl 0 rfl) ?_
    refine q_getN (C := RX3) (T := TX3) (N := 8) hx hb hts iRX3 hown hC.1 (hW.to (qLV4 hi)) rfl 5 (by decide) (va_Nw.use rfl (qf_RX7_107 hC)) rfl (v := .ref (ad 6 (σ 68 i))) rfl dX7_patternsAreSound_26 ?_
    refine q_getN (C := RX4) (T := TX4) (N := 4) hx hb hts iRX4 hown hC.1 (hW.to (qLV6 hp)) rfl 3 (by decide) (va_Nw.use rfl (qf_RX7_127 hC)) rfl (v := .int (nI (σ 97 (σ 68 i)))) rfl dX7_patternsAreSound_29 ?_
    refine q_ne0 (tgt := 53) hx hb (q31 (hB _ _)) dX7_patternsAreSound_32 (by decide) (fun c2 => absurd (h0 i hi).1 c2) (fun c2 => ?_)
    refine lv_aload_n hx hb dX7_patternsAreSound_35 rfl (lv_at hl 0 rfl) ?_
    refine q_getN (C := RX3) (T := TX3) (N := 8) hx hb hts iRX3 hown hC.1 (hW.to (qLV4 hi)) rfl 5 (by decide) (va_Nw.use rfl (qf_RX7_107 hC)) rfl (v := .ref (ad 6 (σ 68 i))) rfl dX7_patternsAreSound_36 ?_
    refine lv_aload_n hx hb dX7_patternsAreSound_39 rfl (lv_at hl 0 rfl) ?_
    refine q_getN (C := RX3) (T := TX3) (N := 8) hx hb hts iRX3 hown hC.1 (hW.to (qLV4 hi)) rfl 0 (by decide) (va_Nw.use rfl (qf_RX7_157 hC)) rfl (v := .int (nI (σ 64 i))) rfl dX7_patternsAreSound_40 ?_
    refine lv_aload_n hx hb dX7_patternsAreSound_43 rfl (lv_at hl 0 rfl) ?_
    refine q_getN (C := RX3) (T := TX3) (N := 8) hx hb hts iRX3 hown hC.1 (hW.to (qLV4 hi)) rfl 2 (by decide) (va_Nw.use rfl (qf_RX7_145 hC)) rfl (v := .ref (ad 5 i)) rfl dX7_patternsAreSound_44 ?_
    refine q_v (va_runVN (C := RX4) (As := [.int (nI (σ 64 i)), .ref (ad 5 i)]) (rest := []) ⟨hx, hb, hml, hown, hts⟩ (m_suits l G (ad 6 (σ 68 i)) (ad 7 (σ 68 i)) (ad 5 i) (σ 96 (σ 68 i)) (σ 64 i) (fun k => σ (112 + k) (σ 68 i)) (fun k => σ (80 + k) i) _ _ (hB _ _) (hB _ _) (fun _ => hB _ _) (fun k hk => by have h6 := hF.lin hi; exact q_lt3 (p := fun k => σ (80 + k) i < 1073741823) (by show σ 80 i < _; omega) (by show σ 81 i < _; omega) (by show σ 82 i < _; omega) k hk)) ⟨va_cnB 2 hts gX7_patternsAreSound_X4_suits_n313 rfl rfl rfl (qm_RX7_313 hC) (hts (.initialized RX4) (List.mem_of_getElem? (i := 27) (by decide +kernel))) (by decide +kernel) ⟨Nat.le_of_ble_eq_true rfl, Nat.le_of_ble_eq_true rfl⟩, (hts (.instanceMethod yX4_suits) (List.mem_of_getElem? (i := 26) (by decide +kernel))), (hts (.selects RX4 yX4_suits yX4_suits) (List.mem_of_getElem? (i := 28) (by decide +kernel)))⟩ ⟨qO.blind, qrecv hC (hW.to (qLV6 hp)) rfl, qO.pre hC (va_P3 (hW.to (qLV6 hp)) (hW.to (qLV7 hp)) (hW.to (qLV5 hi)))⟩ rfl rfl hl.1 rfl (lv_room (Nat.le_of_ble_eq_true rfl)) dX7_patternsAreSound_47 ⟨Nat.le_of_ble_eq_true rfl, Nat.le_of_ble_eq_true rfl⟩) hS (fun _ h => h.elim) (fun locs hS => ?_)
    refine q_ne0 (tgt := 55) hx hb q_31B dX7_patternsAreSound_50 (by decide) (fun c3 => ?_) (fun c3 => absurd (c3.symm.trans (qB_t (h0 i hi).2)) (by decide))
    refine lv_iinc (v := nI (i + 1)) (lv' := [(1, .int (nI (i + 1))), (2, .ref (ad 4 i)), (0, .ref (ad 0 0))]) hx hb dX7_patternsAreSound_55 hl (k := 2) rfl (nI_1 i) (by decide) rfl (fun ls hl => ?_)
    refine lv_goto (tgt := 2) hx hb dX7_patternsAreSound_58 (by decide) ?_
    exact ih _ locs ls ⟨rfl, hS, lv_sub hl [2, 0] rfl⟩
