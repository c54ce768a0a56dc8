set_option maxHeartbeats 4000000 in
set_option maxRecDepth 100000 in
theorem m_standsOn (l : Launch) (G : QG) (es : Nat) (A : Nat → Prop) (σ ad : QSt) (hF : qWF σ) (f i : Nat) (hf : f < σ 0 3) (hi : i < σ 0 0) : Met l yX7_standsOn wsX7_standsOn ({ frames := 4, cells := 0, slots := 0, locals := 85 } : Room) (qR G es A σ ad [.ref (ad 0 0), .int (nI f), .int (nI i)]) (qPV (some (.int (nI (qB (σ (1000 + f) i = 1)))))) 0 0 (fun _ => False) := by
  refine Met.ofW (cc := cX7_standsOn) (maxL := 4) (ret := (some .boolean)) (by decide) rfl ?_
  intro p e s m args below meth c s₁ B hml hv
  obtain ⟨rfl, hC, hW⟩ := hv
  have hx := B.exec
  have hb := B.bytes
  have hr := B.returns
  have hts := atoms_spec (ws := wsX7_standsOn) B.pre
  have hown : s.vm.findClass RX7 = some m.cls := findClass_of_methodNamed B.named
  have hlocks := B.notSynchronized
  have hB := hF.1
  have hn := hF.n
  have hS : va_S (fun _ => False) s.heap s.heap [] := va_S.rf
  have hl := lv_entry ([.ref (ad 0 0), .int (nI f), .int (nI i)]) (n := 4) (Nat.le_of_ble_eq_true rfl)
  rw [lg_entry_eq]
  generalize (lg_sl ([.ref (ad 0 0), .int (nI f), .int (nI i)]) ++ List.replicate (4 - (lg_sl ([.ref (ad 0 0), .int (nI f), .int (nI i)])).length) Slot.unset).toArray = ls at hl ⊢
  have hl : lv_has ls 4 [(0, .ref (ad 0 0)), (1, .int (nI f)), (2, .int (nI i))] := hl
  have iRX7 : ∀ w ∈ wsX70, w ∈ wsX7_standsOn := by decide +kernel
  have iRX2 : ∀ w ∈ wsX20, w ∈ wsX7_standsOn := by decide +kernel
  refine lv_aload_n hx hb dX7_standsOn_0 rfl (lv_at hl 0 rfl) ?_
  refine lv_iload_n hx hb dX7_standsOn_1 rfl (lv_at hl 1 rfl) ?_
  refine q_v (va_runV (As := [.int (nI f)]) (rest := []) ⟨hx, hb, hml, hown, hts⟩ (m_firingNumbered l G es A σ ad hF f hf) (cwV 1 hts gX7_standsOn_X7_firingNumbered rfl rfl rfl (by decide +kernel) ⟨Nat.le_of_ble_eq_true rfl, Nat.le_of_ble_eq_true rfl⟩) ⟨qR.blind, qrecv hC (hW.to qLV0) rfl, qR.pre hC hW⟩ rfl rfl hl.1 rfl (lv_room (Nat.le_of_ble_eq_true rfl)) dX7_standsOn_2 ⟨Nat.le_of_ble_eq_true rfl, Nat.le_of_ble_eq_true rfl⟩) hS (fun _ h => h.elim) (fun locs hS => ?_)
  refine lv_astore_n (lv' := [(3, .ref (ad 10 f)), (0, .ref (ad 0 0)), (1, .int (nI f)), (2, .int (nI i))]) hx hb dX7_standsOn_5 rfl hl (by decide) rfl (fun ls hl => ?_)
  refine lv_aload_n hx hb dX7_standsOn_6 rfl (lv_at hl 1 rfl) ?_
  refine lv_iload_n hx hb dX7_standsOn_7 rfl (lv_at hl 3 rfl) ?_
  refine q_v (va_runV (As := [.int (nI i)]) (rest := []) ⟨hx, hb, hml, hown, hts⟩ (m_lineNumbered l G es A σ ad hF i hi) (cwV 1 hts gX7_standsOn_X7_lineNumbered rfl rfl rfl (by decide +kernel) ⟨Nat.le_of_ble_eq_true rfl, Nat.le_of_ble_eq_true rfl⟩) ⟨qR.blind, qrecv hC (hW.to qLV0) rfl, qR.pre hC hW⟩ rfl rfl hl.1 rfl (lv_room (Nat.le_of_ble_eq_true rfl)) dX7_standsOn_8 ⟨Nat.le_of_ble_eq_true rfl, Nat.le_of_ble_eq_true rfl⟩) hS (fun _ h => h.elim) (fun locs hS => ?_)
  refine lv_pop hx hb dX7_standsOn_11 rfl ?_
  refine lv_aload_n hx hb dX7_standsOn_12 rfl (lv_at hl 0 rfl) ?_
  refine lv_iload_n hx hb dX7_standsOn_13 rfl (lv_at hl 3 rfl) ?_
  refine q_v (va_runVN (C := RX2) (As := [.int (nI i)]) (rest := []) ⟨hx, hb, hml, hown, hts⟩ (m_hasLine l G es A σ ad hF f hf i (by omega)) ⟨va_cnB 1 hts gX7_standsOn_X2_hasLine_n239 rfl rfl rfl (qm_RX7_239 hC) (hts (.initialized RX2) (List.mem_of_getElem? (i := 40) (by decide +kernel))) (by decide +kernel) ⟨Nat.le_of_ble_eq_true rfl, Nat.le_of_ble_eq_true rfl⟩, (hts (.instanceMethod yX2_hasLine) (List.mem_of_getElem? (i := 39) (by decide +kernel))), (hts (.selects RX2 yX2_hasLine yX2_hasLine) (List.mem_of_getElem? (i := 41) (by decide +kernel)))⟩ ⟨qR.blind, qrecv hC (hW.to (qLV10 hf)) rfl, qR.pre hC hW⟩ rfl rfl hl.1 rfl (lv_room (Nat.le_of_ble_eq_true rfl)) dX7_standsOn_14 ⟨Nat.le_of_ble_eq_true rfl, Nat.le_of_ble_eq_true rfl⟩) hS (fun _ h => h.elim) (fun locs hS => ?_)
  exact W.zret hx hb hr (q_nbool _ qB_le) (fun t ht _ => ⟨rfl, ht⟩) hS.2.2 dX7_standsOn_17
set_option maxHeartbeats 4000000 in
set_option maxRecDepth 100000 in
theorem m_isGuarded (l : Launch) (G : QG) (es : Nat) (A : Nat → Prop) (σ ad : QSt) (hF : qWF σ) (i : Nat) (hi : i < σ 0 0) : Met l yX7_isGuarded wsX7_isGuarded ({ frames := 4, cells := 0, slots := 0, locals := 85 } : Room) (qR G es A σ ad [.ref (ad 0 0), .int (nI i)]) (qPV (some (.int (nI (qB (0 < σ 70 i)))))) 0 0 (fun _ => False) := by
  refine Met.ofW (cc := cX7_isGuarded) (maxL := 2) (ret := (some .boolean)) (by decide) rfl ?_
  intro p e s m args below meth c s₁ B hml hv
  obtain ⟨rfl, hC, hW⟩ := hv
  have hx := B.exec
  have hb := B.bytes
  have hr := B.returns
  have hts := atoms_spec (ws := wsX7_isGuarded) B.pre
  have hown : s.vm.findClass RX7 = some m.cls := findClass_of_methodNamed B.named
  have hlocks := B.notSynchronized
  have hB := hF.1
  have hn := hF.n
  have hS : va_S (fun _ => False) s.heap s.heap [] := va_S.rf
  have hl := lv_entry ([.ref (ad 0 0), .int (nI i)]) (n := 2) (Nat.le_of_ble_eq_true rfl)
  rw [lg_entry_eq]
  generalize (lg_sl ([.ref (ad 0 0), .int (nI i)]) ++ List.replicate (2 - (lg_sl ([.ref (ad 0 0), .int (nI i)])).length) Slot.unset).toArray = ls at hl ⊢
  have hl : lv_has ls 2 [(0, .ref (ad 0 0)), (1, .int (nI i))] := hl
  have iRX7 : ∀ w ∈ wsX70, w ∈ wsX7_isGuarded := by decide +kernel
  have iRX3 : ∀ w ∈ wsX30, w ∈ wsX7_isGuarded := by decide +kernel
  refine lv_aload_n hx hb dX7_isGuarded_0 rfl (lv_at hl 0 rfl) ?_
  refine lv_iload_n hx hb dX7_isGuarded_1 rfl (lv_at hl 1 rfl) ?_
  refine q_v (va_runV (As := [.int (nI i)]) (rest := []) ⟨hx, hb, hml, hown, hts⟩ (m_lineNumbered l G es A σ ad hF i hi) (cwV 1 hts gX7_isGuarded_X7_lineNumbered rfl rfl rfl (by decide +kernel) ⟨Nat.le_of_ble_eq_true rfl, Nat.le_of_ble_eq_true rfl⟩) ⟨qR.blind, qrecv hC (hW.to qLV0) rfl, qR.pre hC hW⟩ rfl rfl hl.1 rfl (lv_room (Nat.le_of_ble_eq_true rfl)) dX7_isGuarded_2 ⟨Nat.le_of_ble_eq_true rfl, Nat.le_of_ble_eq_true rfl⟩) hS (fun _ h => h.elim) (fun locs hS => ?_)
  refine q_getN (C := RX3) (T := TX3) (N := 8) hx hb hts iRX3 hown hC.1 (hW.to (qLV4 hi)) rfl 7 (by decide) (va_Nw.use rfl (qf_RX7_263 hC)) rfl (v := .int (nI (σ 70 i))) rfl dX7_isGuarded_5 ?_
  refine q_le0 (tgt := 15) hx hb (q31 (hB _ _)) dX7_isGuarded_8 (by decide) (fun c2 => ?_) (fun c2 => ?_)
  · skip
    refine lv_iconst (v := nI 0) hx hb dX7_isGuarded_15 (by decide) ?_
    exact W.zret (v := nI 0) hx hb hr rfl (fun t ht _ => ⟨by rw [qB_f (by omega)], ht⟩) hS.2.2 dX7_isGuarded_16
  · skip
    refine lv_iconst (v := nI 1) hx hb dX7_isGuarded_11 (by decide) ?_
    refine lv_goto (tgt := 16) hx hb dX7_isGuarded_12 (by decide) ?_
    exact W.zret (v := nI 1) hx hb hr rfl (fun t ht _ => ⟨by rw [qB_t (by omega)], ht⟩) hS.2.2 dX7_isGuarded_16
set_option maxHeartbeats 4000000 in
set_option maxRecDepth 100000 in
theorem m_countedAnew (l : Launch) (G : QG) (es : Nat) (A : Nat → Prop) (σ ad : QSt) (hF : qWF σ) (i : Nat) (hi : i < σ 0 2) : Met l yX7_countedAnew wsX7_countedAnew ({ frames := 4, cells := 0, slots := 0, locals := 87 } : Room) (qR G es A σ ad [.ref (ad 0 0), .int (nI i)]) (qPV (some (.int (nI (qcnt σ i))))) 0 0 (fun _ => False) := by
  refine Met.ofW (cc := cX7_countedAnew) (maxL := 2) (ret := (some .int)) (by decide) rfl ?_
  intro p e s m args below meth c s₁ B hml hv
  obtain ⟨rfl, hC, hW⟩ := hv
  have hx := B.exec
  have hb := B.bytes
  have hr := B.returns
  have hts := atoms_spec (ws := wsX7_countedAnew) B.pre
  have hown : s.vm.findClass RX7 = some m.cls := findClass_of_methodNamed B.named
  have hlocks := B.notSynchronized
  have hB := hF.1
  have hn := hF.n
  have hS : va_S (fun _ => False) s.heap s.heap [] := va_S.rf
  have hl := lv_entry ([.ref (ad 0 0), .int (nI i)]) (n := 2) (Nat.le_of_ble_eq_true rfl)
  rw [lg_entry_eq]
  generalize (lg_sl ([.ref (ad 0 0), .int (nI i)]) ++ List.replicate (2 - (lg_sl ([.ref (ad 0 0), .int (nI i)])).length) Slot.unset).toArray = ls at hl ⊢
  have hl : lv_has ls 2 [(0, .ref (ad 0 0)), (1, .int (nI i))] := hl
  have iRX7 : ∀ w ∈ wsX70, w ∈ wsX7_countedAnew := by decide +kernel
  have iRX0 : ∀ w ∈ wsX00, w ∈ wsX7_countedAnew := by decide +kernel
  refine lv_aload_n hx hb dX7_countedAnew_0 rfl (lv_at hl 0 rfl) ?_
  refine lv_aload_n hx hb dX7_countedAnew_1 rfl (lv_at hl 0 rfl) ?_
  refine lv_iload_n hx hb dX7_countedAnew_2 rfl (lv_at hl 1 rfl) ?_
  refine q_v (va_runV (As := [.int (nI i)]) (rest := [.ref (ad 0 0)]) ⟨hx, hb, hml, hown, hts⟩ (m_alertNumbered l G es A σ ad hF i hi) (cwV 1 hts gX7_countedAnew_X7_alertNumbered rfl rfl rfl (by decide +kernel) ⟨Nat.le_of_ble_eq_true rfl, Nat.le_of_ble_eq_true rfl⟩) ⟨qR.blind, qrecv hC (hW.to qLV0) rfl, qR.pre hC hW⟩ rfl rfl hl.1 rfl (lv_room (Nat.le_of_ble_eq_true rfl)) dX7_countedAnew_3 ⟨Nat.le_of_ble_eq_true rfl, Nat.le_of_ble_eq_true rfl⟩) hS (fun _ h => h.elim) (fun locs hS => ?_)
  refine q_v (va_runV (As := [.ref (ad 8 i)]) (rest := []) ⟨hx, hb, hml, hown, hts⟩ (m_countFromAllLines l G es A σ ad hF i hi) (cwV 1 hts gX7_countedAnew_X7_countFromAllLines rfl rfl rfl (by decide +kernel) ⟨Nat.le_of_ble_eq_true rfl, Nat.le_of_ble_eq_true rfl⟩) ⟨qR.blind, qrecv hC (hW.to qLV0) rfl, qR.pre hC hW⟩ rfl rfl hl.1 rfl (lv_room (Nat.le_of_ble_eq_true rfl)) dX7_countedAnew_6 ⟨Nat.le_of_ble_eq_true rfl, Nat.le_of_ble_eq_true rfl⟩) hS (fun _ h => h.elim) (fun locs hS => ?_)
  exact W.iret hx hb hr (fun t ht _ => ⟨rfl, ht⟩) hS.2.2 dX7_countedAnew_9
set_option maxHeartbeats 4000000 in
set_option maxRecDepth 100000 in
theorem m_linesOf (l : Launch) (G : QG) (es : Nat) (A : Nat → Prop) (σ ad : QSt) (hF : qWF σ) (p0 : Nat) (hp : p0 < σ 0 1) (hm : σ 97 p0 = 0) : Met l yX7_linesOf wsX7_linesOf ({ frames := 4, cells := 0, slots := 0, locals := 86 } : Room) (qR G es A σ ad [.ref (ad 0 0), .int (nI p0)]) (qPV (some (.int (nI (qsum (fun l => qB (σ 68 l = p0)) (σ 0 0)))))) 0 0 (fun _ => False) := by
  refine Met.ofW (cc := cX7_linesOf) (maxL := 5) (ret := (some .int)) (by decide) rfl ?_
  intro p e s m args below meth c s₁ B hml hv
  obtain ⟨rfl, hC, hW⟩ := hv
  have hx := B.exec
  have hb := B.bytes
  have hr := B.returns
  have hts := atoms_spec (ws := wsX7_linesOf) B.pre
  have hown : s.vm.findClass RX7 = some m.cls := findClass_of_methodNamed B.named
  have hlocks := B.notSynchronized
  have hB := hF.1
  have hn := hF.n
  have hS : va_S (fun _ => False) s.heap s.heap [] := va_S.rf
  have hl := lv_entry ([.ref (ad 0 0), .int (nI p0)]) (n := 5) (Nat.le_of_ble_eq_true rfl)
  rw [lg_entry_eq]
  generalize (lg_sl ([.ref (ad 0 0), .int (nI p0)]) ++ List.replicate (5 - (lg_sl ([.ref (ad 0 0), .int (nI p0)])).length) Slot.unset).toArray = ls at hl ⊢
  have hl : lv_has ls 5 [(0, .ref (ad 0 0)), (1, .int (nI p0))] := hl
  have iRX7 : ∀ w ∈ wsX70, w ∈ wsX7_linesOf := by decide +kernel
  have iRX3 : ∀ w ∈ wsX30, w ∈ wsX7_linesOf := by decide +kernel
  refine lv_aload_n hx hb dX7_linesOf_0 rfl (lv_at hl 0 rfl) ?_
  refine lv_iload_n hx hb dX7_linesOf_1 rfl (lv_at hl 1 rfl) ?_
  refine q_v (va_runV (As := [.int (nI p0)]) (rest := []) ⟨hx, hb, hml, hown, hts⟩ (m_patternNumbered l G es A σ ad hF p0 hp hm) (cwV 1 hts gX7_linesOf_X7_patternNumbered rfl rfl rfl (by decide +kernel) ⟨Nat.le_of_ble_eq_true rfl, Nat.le_of_ble_eq_true rfl⟩) ⟨qR.blind, qrecv hC (hW.to qLV0) rfl, qR.pre hC hW⟩ rfl rfl hl.1 rfl (lv_room (Nat.le_of_ble_eq_true rfl)) dX7_linesOf_2 ⟨Nat.le_of_ble_eq_true rfl, Nat.le_of_ble_eq_true rfl⟩) hS (fun _ h => h.elim) (fun locs hS => ?_)
  refine lv_astore_n (lv' := [(2, .ref (ad 6 p0)), (0, .ref (ad 0 0)), (1, .int (nI p0))]) hx hb dX7_linesOf_5 rfl hl (by decide) rfl (fun ls hl => ?_)
  refine lv_iconst (v := nI 0) hx hb dX7_linesOf_6 (by decide) ?_
  refine lv_istore_n (lv' := [(3, .int (nI 0)), (2, .ref (ad 6 p0)), (0, .ref (ad 0 0)), (1, .int (nI p0))]) hx hb dX7_linesOf_7 rfl hl (by decide) rfl (fun ls hl => ?_)
  refine lv_iconst (v := nI 0) hx hb dX7_linesOf_8 (by decide) ?_
  refine lv_istore (lv' := [(4, .int (nI 0)), (3, .int (nI 0)), (2, .ref (ad 6 p0)), (0, .ref (ad 0 0)), (1, .int (nI p0))]) hx hb dX7_linesOf_9 hl (by decide) rfl (fun ls hl => ?_)
  refine q_up (σ 0 0) (fun i H locs ls => H = s.heap ∧ va_S (fun _ => False) s.heap H locs ∧ ∃ (v : Nat), (v = qsum (fun l => qB (σ 68 l = p0)) i) ∧ lv_has ls 5 [(0, .ref (ad 0 0)), (2, .ref (ad 6 p0)), (3, .int (nI v)), (4, .int (nI i))]) ?_ ?_ (i0 := 0) (Nat.zero_le _) ⟨rfl, hS, 0, rfl, lv_sub hl [3, 2, 1, 0] rfl⟩
  · rintro _ locs ls ⟨rfl, hS, v, e_v, hl⟩
    refine lv_iload hx hb dX7_linesOf_11 (lv_at hl 3 rfl) ?_
    refine lv_aload_n hx hb dX7_linesOf_13 rfl (lv_at hl 0 rfl) ?_
    refine q_get (C := RX7) (T := TX7) (N := 7) hx hb hts iRX7 hown hC.1 (hW.to qLV0) rfl 0 (by decide) (hts (.fieldLink RX7 10 "LogWeave" "lineList" "Ljava/util/ArrayList;") (List.mem_of_getElem? (i := 1) (by decide +kernel))) rfl (v := .ref (ad 1 0)) rfl dX7_linesOf_14 ?_
    refine q_v (va_runV (As := []) (rest := [.int (nI (σ 0 0))]) ⟨hx, hb, hml, hown, hts⟩ (m_size l G (ad 1 0) _ _ (nI (σ 0 0))) (cwV 0 hts gX7_linesOf_Jx4a65c_size_8abf5 rfl rfl rfl (by decide +kernel) ⟨Nat.le_of_ble_eq_true rfl, Nat.le_of_ble_eq_true rfl⟩) ⟨qO.blind, qrecv hC (hW.to (qLV1 (j := 0) (by decide))) rfl, qO.pre hC (hW.lob (by decide))⟩ rfl rfl hl.1 rfl (lv_room (Nat.le_of_ble_eq_true rfl)) dX7_linesOf_17 ⟨Nat.le_of_ble_eq_true rfl, Nat.le_of_ble_eq_true rfl⟩) hS (fun _ h => h.elim) (fun locs hS => ?_)
    refine q_ge (tgt := 51) hx hb (q31 (hB _ _)) (q31 (hB _ _)) dX7_linesOf_20 (by decide) (fun g1 => ?_) (fun g1 => (by omega))
    refine lv_iload_n hx hb dX7_linesOf_51 rfl (lv_at hl 2 rfl) ?_
    exact W.iret hx hb hr (fun t ht _ => ⟨by rw [e_v], ht⟩) hS.2.2 dX7_linesOf_52
  · rintro i _ locs ls hi ⟨rfl, hS, v, e_v, hl⟩ ih
    refine lv_iload hx hb dX7_linesOf_11 (lv_at hl 3 rfl) ?_
    refine lv_aload_n hx hb dX7_linesOf_13 rfl (lv_at hl 0 rfl) ?_
    refine q_get (C := RX7) (T := TX7) (N := 7) hx hb hts iRX7 hown hC.1 (hW.to qLV0) rfl 0 (by decide) (hts (.fieldLink RX7 10 "LogWeave" "lineList" "Ljava/util/ArrayList;") (List.mem_of_getElem? (i := 1) (by decide +kernel))) rfl (v := .ref (ad 1 0)) rfl dX7_linesOf_14 ?_
    refine q_v (va_runV (As := []) (rest := [.int (nI i)]) ⟨hx, hb, hml, hown, hts⟩ (m_size l G (ad 1 0) _ _ (nI (σ 0 0))) (cwV 0 hts gX7_linesOf_Jx4a65c_size_8abf5 rfl rfl rfl (by decide +kernel) ⟨Nat.le_of_ble_eq_true rfl, Nat.le_of_ble_eq_true rfl⟩) ⟨qO.blind, qrecv hC (hW.to (qLV1 (j := 0) (by decide))) rfl, qO.pre hC (hW.lob (by decide))⟩ rfl rfl hl.1 rfl (lv_room (Nat.le_of_ble_eq_true rfl)) dX7_linesOf_17 ⟨Nat.le_of_ble_eq_true rfl, Nat.le_of_ble_eq_true rfl⟩) hS (fun _ h => h.elim) (fun locs hS => ?_)
    refine q_ge (tgt := 51) hx hb (by omega) (q31 (hB _ _)) dX7_linesOf_20 (by decide) (fun g2 => (by omega)) (fun g2 => ?_)
    refine lv_aload_n hx hb dX7_linesOf_23 rfl (lv_at hl 0 rfl) ?_
    refine q_get (C := RX7) (T := TX7) (N := 7) hx hb hts iRX7 hown hC.1 (hW.to qLV0) rfl 0 (by decide) (hts (.fieldLink RX7 10 "LogWeave" "lineList" "Ljava/util/ArrayList;") (List.mem_of_getElem? (i := 1) (by decide +kernel))) rfl (v := .ref (ad 1 0)) rfl dX7_linesOf_24 ?_
    refine lv_iload hx hb dX7_linesOf_27 (lv_at hl 3 rfl) ?_
    refine q_v (va_runV (As := [.int (nI i)]) (rest := []) ⟨hx, hb, hml, hown, hts⟩ (m_get l G (ad 1 0) (ad 2 0) (σ 32 0) (σ 0 0) (fun i => if i < σ 0 0 then some (ad (4 + 2 * 0) i) else none) (.int (nI (σ 16 0))) i (ad 4 i) hi (hF.c 0) (hB _ _) (if_pos hi)) (cwV 1 hts gX7_linesOf_Jx4a65c_get_915e3 rfl rfl rfl (by decide +kernel) ⟨Nat.le_of_ble_eq_true rfl, Nat.le_of_ble_eq_true rfl⟩) ⟨qO.blind, qrecv hC (hW.to (qLV1 (j := 0) (by decide))) rfl, qO.pre hC (hW.list hF (J := 0) (by decide) hi)⟩ rfl rfl hl.1 rfl (lv_room (Nat.le_of_ble_eq_true rfl)) dX7_linesOf_29 ⟨Nat.le_of_ble_eq_true rfl, Nat.le_of_ble_eq_true rfl⟩) hS (fun _ h => h.elim) (fun locs hS => ?_)
    refine va_castS hx hb hown (hts (.classLink RX7 74 "LogWeave$Line") (List.mem_of_getElem? (i := 2) (by decide +kernel))) (hC.1.1 6 _ rfl).2 (qrecv hC (hW.to (qLV4 hi)) rfl) dX7_linesOf_32 ?_
    refine q_getN (C := RX3) (T := TX3) (N := 8) hx hb hts iRX3 hown hC.1 (hW.to (qLV4 hi)) rfl 5 (by decide) (va_Nw.use rfl (qf_RX7_107 hC)) rfl (v := .ref (ad 6 (σ 68 i))) rfl dX7_linesOf_35 ?_
    refine lv_aload_n hx hb dX7_linesOf_38 rfl (lv_at hl 1 rfl) ?_
    refine q_acmp_ne (tgt := 45) hx hb dX7_linesOf_39 (by decide) (fun c2 => ?_) (fun c2 => ?_)
    · skip
      refine lv_iinc (v := nI (i + 1)) (lv' := [(4, .int (nI (i + 1))), (0, .ref (ad 0 0)), (2, .ref (ad 6 p0)), (3, .int (nI v))]) hx hb dX7_linesOf_45 hl (k := 3) rfl (nI_1 i) (by decide) rfl (fun ls hl => ?_)
      refine lv_goto (tgt := 11) hx hb dX7_linesOf_48 (by decide) ?_
      exact ih _ locs ls ⟨rfl, hS, v, by rw [e_v, qsum, qB_f (fun h => c2 (by rw [h]))]; rfl, lv_sub hl [1, 2, 3, 0] rfl⟩
    · skip
      refine lv_iinc (v := nI (v + 1)) (lv' := [(3, .int (nI (v + 1))), (0, .ref (ad 0 0)), (2, .ref (ad 6 p0)), (4, .int (nI i))]) hx hb dX7_linesOf_42 hl (k := 2) rfl (nI_1 v) (by decide) rfl (fun ls hl => ?_)
      refine lv_iinc (v := nI (i + 1)) (lv' := [(4, .int (nI (i + 1))), (3, .int (nI (v + 1))), (0, .ref (ad 0 0)), (2, .ref (ad 6 p0))]) hx hb dX7_linesOf_45 hl (k := 3) rfl (nI_1 i) (by decide) rfl (fun ls hl => ?_)
      refine lv_goto (tgt := 11) hx hb dX7_linesOf_48 (by decide) ?_
      exact ih _ locs ls ⟨rfl, hS, (v + 1), by rw [e_v, qsum, qB_t ((hW.inj (qLV6 (hF.pat hi)) (qLV6 hp)).mp c2)], lv_sub hl [2, 3, 1, 0] rfl⟩
set_option maxHeartbeats 4000000 in
set_option maxRecDepth 100000 in
theorem m_dropped (l : Launch) (G : QG) (es : Nat) (A : Nat → Prop) (σ ad : QSt) (hF : qWF σ) (s0 : Nat) (hs0 : s0 < 4) : Met l yX7_dropped wsX7_dropped ({ frames := 3, cells := 0, slots := 0, locals := 64 } : Room) (qR G es A σ ad [.ref (ad 0 0), .int (nI s0)]) (qPV (some (.int (nI (qsum (fun l => qB (σ 64 l = s0 ∧ σ 69 l = 100)) (σ 0 0)))))) 0 0 (fun _ => False) := by
  refine Met.ofW (cc := cX7_dropped) (maxL := 5) (ret := (some .int)) (by decide) rfl ?_
  intro p e s m args below meth c s₁ B hml hv
  obtain ⟨rfl, hC, hW⟩ := hv
  have hx := B.exec
  have hb := B.bytes
  have hr := B.returns
  have hts := atoms_spec (ws := wsX7_dropped) B.pre
  have hown : s.vm.findClass RX7 = some m.cls := findClass_of_methodNamed B.named
  have hlocks := B.notSynchronized
  have hB := hF.1
  have hn := hF.n
  have hS : va_S (fun _ => False) s.heap s.heap [] := va_S.rf
  have hl := lv_entry ([.ref (ad 0 0), .int (nI s0)]) (n := 5) (Nat.le_of_ble_eq_true rfl)
  rw [lg_entry_eq]
  generalize (lg_sl ([.ref (ad 0 0), .int (nI s0)]) ++ List.replicate (5 - (lg_sl ([.ref (ad 0 0), .int (nI s0)])).length) Slot.unset).toArray = ls at hl ⊢
  have hl : lv_has ls 5 [(0, .ref (ad 0 0)), (1, .int (nI s0))] := hl
  have iRX7 : ∀ w ∈ wsX70, w ∈ wsX7_dropped := by decide +kernel
  have iRX3 : ∀ w ∈ wsX30, w ∈ wsX7_dropped := by decide +kernel
  refine lv_iload_n hx hb dX7_dropped_0 rfl (lv_at hl 1 rfl) ?_
  refine q_n (va_runS (As := [.int (nI s0)]) (rest := []) ⟨hx, hb, hml, hown, hts⟩ (m_checkSource l s0 hs0) (va_cwS 1 hts gX7_dropped_X7_checkSource rfl rfl rfl (by decide +kernel) ⟨Nat.le_of_ble_eq_true rfl, Nat.le_of_ble_eq_true rfl⟩) ⟨qU.blind, qU.pre⟩ rfl rfl hl.1 rfl (lv_room (Nat.le_of_ble_eq_true rfl)) dX7_dropped_1 ⟨Nat.le_of_ble_eq_true rfl, Nat.le_of_ble_eq_true rfl⟩) hS (fun _ h => h.elim) (fun locs hS => ?_)
  refine lv_iconst (v := nI 0) hx hb dX7_dropped_4 (by decide) ?_
  refine lv_istore_n (lv' := [(2, .int (nI 0)), (0, .ref (ad 0 0)), (1, .int (nI s0))]) hx hb dX7_dropped_5 rfl hl (by decide) rfl (fun ls hl => ?_)
  refine lv_iconst (v := nI 0) hx hb dX7_dropped_6 (by decide) ?_
  refine lv_istore_n (lv' := [(3, .int (nI 0)), (2, .int (nI 0)), (0, .ref (ad 0 0)), (1, .int (nI s0))]) hx hb dX7_dropped_7 rfl hl (by decide) rfl (fun ls hl => ?_)
  refine q_up (σ 0 0) (fun i H locs ls => H = s.heap ∧ va_S (fun _ => False) s.heap H locs ∧ ∃ (v : Nat), (v = qsum (fun l => qB (σ 64 l = s0 ∧ σ 69 l = 100)) i) ∧ lv_has ls 5 [(0, .ref (ad 0 0)), (1, .int (nI s0)), (2, .int (nI v)), (3, .int (nI i))]) ?_ ?_ (i0 := 0) (Nat.zero_le _) ⟨rfl, hS, 0, rfl, lv_sub hl [2, 3, 1, 0] rfl⟩
  · rintro _ locs ls ⟨rfl, hS, v, e_v, hl⟩
    refine lv_iload_n hx hb dX7_dropped_8 rfl (lv_at hl 3 rfl) ?_
    refine lv_aload_n hx hb dX7_dropped_9 rfl (lv_at hl 0 rfl) ?_
    refine q_get (C := RX7) (T := TX7) (N := 7) hx hb hts iRX7 hown hC.1 (hW.to qLV0) rfl 0 (by decide) (hts (.fieldLink RX7 10 "LogWeave" "lineList" "Ljava/util/ArrayList;") (List.mem_of_getElem? (i := 1) (by decide +kernel))) rfl (v := .ref (ad 1 0)) rfl dX7_dropped_10 ?_
    refine q_v (va_runV (As := []) (rest := [.int (nI (σ 0 0))]) ⟨hx, hb, hml, hown, hts⟩ (m_size l G (ad 1 0) _ _ (nI (σ 0 0))) (cwV 0 hts gX7_dropped_Jx4a65c_size_8abf5 rfl rfl rfl (by decide +kernel) ⟨Nat.le_of_ble_eq_true rfl, Nat.le_of_ble_eq_true rfl⟩) ⟨qO.blind, qrecv hC (hW.to (qLV1 (j := 0) (by decide))) rfl, qO.pre hC (hW.lob (by decide))⟩ rfl rfl hl.1 rfl (lv_room (Nat.le_of_ble_eq_true rfl)) dX7_dropped_13 ⟨Nat.le_of_ble_eq_true rfl, Nat.le_of_ble_eq_true rfl⟩) hS (fun _ h => h.elim) (fun locs hS => ?_)
    refine q_ge (tgt := 60) hx hb (q31 (hB _ _)) (q31 (hB _ _)) dX7_dropped_16 (by decide) (fun g1 => ?_) (fun g1 => (by omega))
    refine lv_iload_n hx hb dX7_dropped_60 rfl (lv_at hl 2 rfl) ?_
    exact W.iret hx hb hr (fun t ht _ => ⟨by rw [e_v], ht⟩) hS.2.2 dX7_dropped_61
  · rintro i _ locs ls hi ⟨rfl, hS, v, e_v, hl⟩ ih
    refine lv_iload_n hx hb dX7_dropped_8 rfl (lv_at hl 3 rfl) ?_
    refine lv_aload_n hx hb dX7_dropped_9 rfl (lv_at hl 0 rfl) ?_
    refine q_get (C := RX7) (T := TX7) (N := 7) hx hb hts iRX7 hown hC.1 (hW.to qLV0) rfl 0 (by decide) (hts (.fieldLink RX7 10 "LogWeave" "lineList" "Ljava/util/ArrayList;") (List.mem_of_getElem? (i := 1) (by decide +kernel))) rfl (v := .ref (ad 1 0)) rfl dX7_dropped_10 ?_
    refine q_v (va_runV (As := []) (rest := [.int (nI i)]) ⟨hx, hb, hml, hown, hts⟩ (m_size l G (ad 1 0) _ _ (nI (σ 0 0))) (cwV 0 hts gX7_dropped_Jx4a65c_size_8abf5 rfl rfl rfl (by decide +kernel) ⟨Nat.le_of_ble_eq_true rfl, Nat.le_of_ble_eq_true rfl⟩) ⟨qO.blind, qrecv hC (hW.to (qLV1 (j := 0) (by decide))) rfl, qO.pre hC (hW.lob (by decide))⟩ rfl rfl hl.1 rfl (lv_room (Nat.le_of_ble_eq_true rfl)) dX7_dropped_13 ⟨Nat.le_of_ble_eq_true rfl, Nat.le_of_ble_eq_true rfl⟩) hS (fun _ h => h.elim) (fun locs hS => ?_)
    refine q_ge (tgt := 60) hx hb (by omega) (q31 (hB _ _)) dX7_dropped_16 (by decide) (fun g2 => (by omega)) (fun g2 => ?_)
    refine lv_aload_n hx hb dX7_dropped_19 rfl (lv_at hl 0 rfl) ?_
    refine q_get (C := RX7) (T := TX7) (N := 7) hx hb hts iRX7 hown hC.1 (hW.to qLV0) rfl 0 (by decide) (hts (.fieldLink RX7 10 "LogWeave" "lineList" "Ljava/util/ArrayList;") (List.mem_of_getElem? (i := 1) (by decide +kernel))) rfl (v := .ref (ad 1 0)) rfl dX7_dropped_20 ?_
    refine lv_iload_n hx hb dX7_dropped_23 rfl (lv_at hl 3 rfl) ?_
    refine q_v (va_runV (As := [.int (nI i)]) (rest := []) ⟨hx, hb, hml, hown, hts⟩ (m_get l G (ad 1 0) (ad 2 0) (σ 32 0) (σ 0 0) (fun i => if i < σ 0 0 then some (ad (4 + 2 * 0) i) else none) (.int (nI (σ 16 0))) i (ad 4 i) hi (hF.c 0) (hB _ _) (if_pos hi)) (cwV 1 hts gX7_dropped_Jx4a65c_get_915e3 rfl rfl rfl (by decide +kernel) ⟨Nat.le_of_ble_eq_true rfl, Nat.le_of_ble_eq_true rfl⟩) ⟨qO.blind, qrecv hC (hW.to (qLV1 (j := 0) (by decide))) rfl, qO.pre hC (hW.list hF (J := 0) (by decide) hi)⟩ rfl rfl hl.1 rfl (lv_room (Nat.le_of_ble_eq_true rfl)) dX7_dropped_24 ⟨Nat.le_of_ble_eq_true rfl, Nat.le_of_ble_eq_true rfl⟩) hS (fun _ h => h.elim) (fun locs hS => ?_)
    refine va_castS hx hb hown (hts (.classLink RX7 74 "LogWeave$Line") (List.mem_of_getElem? (i := 2) (by decide +kernel))) (hC.1.1 6 _ rfl).2 (qrecv hC (hW.to (qLV4 hi)) rfl) dX7_dropped_27 ?_
    refine lv_astore (lv' := [(4, .ref (ad 4 i)), (0, .ref (ad 0 0)), (1, .int (nI s0)), (2, .int (nI v)), (3, .int (nI i))]) hx hb dX7_dropped_30 hl (by decide) rfl (fun ls hl => ?_)
    refine lv_aload hx hb dX7_dropped_32 (lv_at hl 0 rfl) ?_
    refine q_getN (C := RX3) (T := TX3) (N := 8) hx hb hts iRX3 hown hC.1 (hW.to (qLV4 hi)) rfl 0 (by decide) (va_Nw.use rfl (qf_RX7_157 hC)) rfl (v := .int (nI (σ 64 i))) rfl dX7_dropped_34 ?_
    refine lv_iload_n hx hb dX7_dropped_37 rfl (lv_at hl 2 rfl) ?_
    refine q_ne (tgt := 54) hx hb (q31 (hB _ _)) (by omega) dX7_dropped_38 (by decide) (fun c2 => ?_) (fun c2 => ?_)
    · skip
      refine lv_iinc (v := nI (i + 1)) (lv' := [(3, .int (nI (i + 1))), (4, .ref (ad 4 i)), (0, .ref (ad 0 0)), (1, .int (nI s0)), (2, .int (nI v))]) hx hb dX7_dropped_54 hl (k := 4) rfl (nI_1 i) (by decide) rfl (fun ls hl => ?_)
      refine lv_goto (tgt := 8) hx hb dX7_dropped_57 (by decide) ?_
      exact ih _ locs ls ⟨rfl, hS, v, by rw [e_v, qsum, qB_f (fun h => c2 h.1)]; rfl, lv_sub hl [2, 3, 4, 0] rfl⟩
    · skip
      refine lv_aload hx hb dX7_dropped_41 (lv_at hl 0 rfl) ?_
      refine q_getN (C := RX3) (T := TX3) (N := 8) hx hb hts iRX3 hown hC.1 (hW.to (qLV4 hi)) rfl 6 (by decide) (va_Nw.use rfl (qf_RX7_103 hC)) rfl (v := .int (nI (σ 69 i))) rfl dX7_dropped_43 ?_
      refine lv_bipush (v := nI 100) hx hb dX7_dropped_46 (by decide) ?_
      refine q_ne (tgt := 54) hx hb (q31 (hB _ _)) (by decide) dX7_dropped_48 (by decide) (fun c3 => ?_) (fun c3 => ?_)
      · skip
        refine lv_iinc (v := nI (i + 1)) (lv' := [(3, .int (nI (i + 1))), (4, .ref (ad 4 i)), (0, .ref (ad 0 0)), (1, .int (nI s0)), (2, .int (nI v))]) hx hb dX7_dropped_54 hl (k := 4) rfl (nI_1 i) (by decide) rfl (fun ls hl => ?_)
        refine lv_goto (tgt := 8) hx hb dX7_dropped_57 (by decide) ?_
        exact ih _ locs ls ⟨rfl, hS, v, by rw [e_v, qsum, qB_f (fun h => c3 h.2)]; rfl, lv_sub hl [2, 3, 4, 0] rfl⟩
      · skip
        refine lv_iinc (v := nI (v + 1)) (lv' := [(2, .int (nI (v + 1))), (4, .ref (ad 4 i)), (0, .ref (ad 0 0)), (1, .int (nI s0)), (3, .int (nI i))]) hx hb dX7_dropped_51 hl (k := 3) rfl (nI_1 v) (by decide) rfl (fun ls hl => ?_)
        refine lv_iinc (v := nI (i + 1)) (lv' := [(3, .int (nI (i + 1))), (2, .int (nI (v + 1))), (4, .ref (ad 4 i)), (0, .ref (ad 0 0)), (1, .int (nI s0))]) hx hb dX7_dropped_54 hl (k := 4) rfl (nI_1 i) (by decide) rfl (fun ls hl => ?_)
        refine lv_goto (tgt := 8) hx hb dX7_dropped_57 (by decide) ?_
        exact ih _ locs ls ⟨rfl, hS, (v + 1), by rw [e_v, qsum, qB_t ⟨c2, c3⟩], lv_sub hl [3, 4, 1, 0] rfl⟩
set_option maxHeartbeats 4000000 in
set_option maxRecDepth 100000 in
theorem m_patterns (l : Launch) (G : QG) (es : Nat) (A : Nat → Prop) (σ ad : QSt) (hF : qWF σ) (s0 : Nat) (hs0 : s0 < 4) : Met l yX7_patterns wsX7_patterns ({ frames := 3, cells := 0, slots := 0, locals := 64 } : Room) (qR G es A σ ad [.ref (ad 0 0), .int (nI s0)]) (qPV (some (.int (nI (qsum (fun l => qB (σ 96 l = s0 ∧ σ 97 l = 0)) (σ 0 1)))))) 0 0 (fun _ => False) := by
  refine Met.ofW (cc := cX7_patterns) (maxL := 5) (ret := (some .int)) (by decide) rfl ?_
  intro p e s m args below meth c s₁ B hml hv
  obtain ⟨rfl, hC, hW⟩ := hv
  have hx := B.exec
  have hb := B.bytes
  have hr := B.returns
  have hts := atoms_spec (ws := wsX7_patterns) B.pre
  have hown : s.vm.findClass RX7 = some m.cls := findClass_of_methodNamed B.named
  have hlocks := B.notSynchronized
  have hB := hF.1
  have hn := hF.n
  have hS : va_S (fun _ => False) s.heap s.heap [] := va_S.rf
  have hl := lv_entry ([.ref (ad 0 0), .int (nI s0)]) (n := 5) (Nat.le_of_ble_eq_true rfl)
  rw [lg_entry_eq]
  generalize (lg_sl ([.ref (ad 0 0), .int (nI s0)]) ++ List.replicate (5 - (lg_sl ([.ref (ad 0 0), .int (nI s0)])).length) Slot.unset).toArray = ls at hl ⊢
  have hl : lv_has ls 5 [(0, .ref (ad 0 0)), (1, .int (nI s0))] := hl
  have iRX7 : ∀ w ∈ wsX70, w ∈ wsX7_patterns := by decide +kernel
  have iRX4 : ∀ w ∈ wsX40, w ∈ wsX7_patterns := by decide +kernel
  refine lv_iload_n hx hb dX7_patterns_0 rfl (lv_at hl 1 rfl) ?_
  refine q_n (va_runS (As := [.int (nI s0)]) (rest := []) ⟨hx, hb, hml, hown, hts⟩ (m_checkSource l s0 hs0) (va_cwS 1 hts gX7_patterns_X7_checkSource rfl rfl rfl (by decide +kernel) ⟨Nat.le_of_ble_eq_true rfl, Nat.le_of_ble_eq_true rfl⟩) ⟨qU.blind, qU.pre⟩ rfl rfl hl.1 rfl (lv_room (Nat.le_of_ble_eq_true rfl)) dX7_patterns_1 ⟨Nat.le_of_ble_eq_true rfl, Nat.le_of_ble_eq_true rfl⟩) hS (fun _ h => h.elim) (fun locs hS => ?_)
  refine lv_iconst (v := nI 0) hx hb dX7_patterns_4 (by decide) ?_
  refine lv_istore_n (lv' := [(2, .int (nI 0)), (0, .ref (ad 0 0)), (1, .int (nI s0))]) hx hb dX7_patterns_5 rfl hl (by decide) rfl (fun ls hl => ?_)
  refine lv_iconst (v := nI 0) hx hb dX7_patterns_6 (by decide) ?_
  refine lv_istore_n (lv' := [(3, .int (nI 0)), (2, .int (nI 0)), (0, .ref (ad 0 0)), (1, .int (nI s0))]) hx hb dX7_patterns_7 rfl hl (by decide) rfl (fun ls hl => ?_)
  refine q_up (σ 0 1) (fun i H locs ls => H = s.heap ∧ va_S (fun _ => False) s.heap H locs ∧ ∃ (v : Nat), (v = qsum (fun l => qB (σ 96 l = s0 ∧ σ 97 l = 0)) i) ∧ lv_has ls 5 [(0, .ref (ad 0 0)), (1, .int (nI s0)), (2, .int (nI v)), (3, .int (nI i))]) ?_ ?_ (i0 := 0) (Nat.zero_le _) ⟨rfl, hS, 0, rfl, lv_sub hl [2, 3, 1, 0] rfl⟩
  · rintro _ locs ls ⟨rfl, hS, v, e_v, hl⟩
    refine lv_iload_n hx hb dX7_patterns_8 rfl (lv_at hl 3 rfl) ?_
    refine lv_aload_n hx hb dX7_patterns_9 rfl (lv_at hl 0 rfl) ?_
    refine q_get (C := RX7) (T := TX7) (N := 7) hx hb hts iRX7 hown hC.1 (hW.to qLV0) rfl 1 (by decide) (hts (.fieldLink RX7 16 "LogWeave" "patternList" "Ljava/util/ArrayList;") (List.mem_of_getElem? (i := 1) (by decide +kernel))) rfl (v := .ref (ad 1 1)) rfl dX7_patterns_10 ?_
    refine q_v (va_runV (As := []) (rest := [.int (nI (σ 0 1))]) ⟨hx, hb, hml, hown, hts⟩ (m_size l G (ad 1 1) _ _ (nI (σ 0 1))) (cwV 0 hts gX7_patterns_Jx4a65c_size_8abf5 rfl rfl rfl (by decide +kernel) ⟨Nat.le_of_ble_eq_true rfl, Nat.le_of_ble_eq_true rfl⟩) ⟨qO.blind, qrecv hC (hW.to (qLV1 (j := 1) (by decide))) rfl, qO.pre hC (hW.lob (by decide))⟩ rfl rfl hl.1 rfl (lv_room (Nat.le_of_ble_eq_true rfl)) dX7_patterns_13 ⟨Nat.le_of_ble_eq_true rfl, Nat.le_of_ble_eq_true rfl⟩) hS (fun _ h => h.elim) (fun locs hS => ?_)
    refine q_ge (tgt := 58) hx hb (q31 (hB _ _)) (q31 (hB _ _)) dX7_patterns_16 (by decide) (fun g1 => ?_) (fun g1 => (by omega))
    refine lv_iload_n hx hb dX7_patterns_58 rfl (lv_at hl 2 rfl) ?_
    exact W.iret hx hb hr (fun t ht _ => ⟨by rw [e_v], ht⟩) hS.2.2 dX7_patterns_59
  · rintro i _ locs ls hi ⟨rfl, hS, v, e_v, hl⟩ ih
    refine lv_iload_n hx hb dX7_patterns_8 rfl (lv_at hl 3 rfl) ?_
    refine lv_aload_n hx hb dX7_patterns_9 rfl (lv_at hl 0 rfl) ?_
    refine q_get (C := RX7) (T := TX7) (N := 7) hx hb hts iRX7 hown hC.1 (hW.to qLV0) rfl 1 (by decide) (hts (.fieldLink RX7 16 "LogWeave" "patternList" "Ljava/util/ArrayList;") (List.mem_of_getElem? (i := 1) (by decide +kernel))) rfl (v := .ref (ad 1 1)) rfl dX7_patterns_10 ?_
    refine q_v (va_runV (As := []) (rest := [.int (nI i)]) ⟨hx, hb, hml, hown, hts⟩ (m_size l G (ad 1 1) _ _ (nI (σ 0 1))) (cwV 0 hts gX7_patterns_Jx4a65c_size_8abf5 rfl rfl rfl (by decide +kernel) ⟨Nat.le_of_ble_eq_true rfl, Nat.le_of_ble_eq_true rfl⟩) ⟨qO.blind, qrecv hC (hW.to (qLV1 (j := 1) (by decide))) rfl, qO.pre hC (hW.lob (by decide))⟩ rfl rfl hl.1 rfl (lv_room (Nat.le_of_ble_eq_true rfl)) dX7_patterns_13 ⟨Nat.le_of_ble_eq_true rfl, Nat.le_of_ble_eq_true rfl⟩) hS (fun _ h => h.elim) (fun locs hS => ?_)
    refine q_ge (tgt := 58) hx hb (by omega) (q31 (hB _ _)) dX7_patterns_16 (by decide) (fun g2 => (by omega)) (fun g2 => ?_)
    refine lv_aload_n hx hb dX7_patterns_19 rfl (lv_at hl 0 rfl) ?_
    refine q_get (C := RX7) (T := TX7) (N := 7) hx hb hts iRX7 hown hC.1 (hW.to qLV0) rfl 1 (by decide) (hts (.fieldLink RX7 16 "LogWeave" "patternList" "Ljava/util/ArrayList;") (List.mem_of_getElem? (i := 1) (by decide +kernel))) rfl (v := .ref (ad 1 1)) rfl dX7_patterns_20 ?_
    refine lv_iload_n hx hb dX7_patterns_23 rfl (lv_at hl 3 rfl) ?_
    refine q_v (va_runV (As := [.int (nI i)]) (rest := []) ⟨hx, hb, hml, hown, hts⟩ (m_get l G (ad 1 1) (ad 2 1) (σ 32 1) (σ 0 1) (fun i => if i < σ 0 1 then some (ad (4 + 2 * 1) i) else none) (.int (nI (σ 16 1))) i (ad 6 i) hi (hF.c 1) (hB _ _) (if_pos hi)) (cwV 1 hts gX7_patterns_Jx4a65c_get_915e3 rfl rfl rfl (by decide +kernel) ⟨Nat.le_of_ble_eq_true rfl, Nat.le_of_ble_eq_true rfl⟩) ⟨qO.blind, qrecv hC (hW.to (qLV1 (j := 1) (by decide))) rfl, qO.pre hC (hW.list hF (J := 1) (by decide) hi)⟩ rfl rfl hl.1 rfl (lv_room (Nat.le_of_ble_eq_true rfl)) dX7_patterns_24 ⟨Nat.le_of_ble_eq_true rfl, Nat.le_of_ble_eq_true rfl⟩) hS (fun _ h => h.elim) (fun locs hS => ?_)
    refine va_castS hx hb hown (hts (.classLink RX7 112 "LogWeave$Pattern") (List.mem_of_getElem? (i := 2) (by decide +kernel))) (hC.1.1 7 _ rfl).2 (qrecv hC (hW.to (qLV6 hi)) rfl) dX7_patterns_27 ?_
    refine lv_astore (lv' := [(4, .ref (ad 6 i)), (0, .ref (ad 0 0)), (1, .int (nI s0)), (2, .int (nI v)), (3, .int (nI i))]) hx hb dX7_patterns_30 hl (by decide) rfl (fun ls hl => ?_)
    refine lv_aload hx hb dX7_patterns_32 (lv_at hl 0 rfl) ?_
    refine q_getN (C := RX4) (T := TX4) (N := 4) hx hb hts iRX4 hown hC.1 (hW.to (qLV6 hi)) rfl 1 (by decide) (va_Nw.use rfl (qf_RX7_124 hC)) rfl (v := .int (nI (σ 96 i))) rfl dX7_patterns_34 ?_
    refine lv_iload_n hx hb dX7_patterns_37 rfl (lv_at hl 2 rfl) ?_
    refine q_ne (tgt := 52) hx hb (q31 (hB _ _)) (by omega) dX7_patterns_38 (by decide) (fun c2 => ?_) (fun c2 => ?_)
    · skip
      refine lv_iinc (v := nI (i + 1)) (lv' := [(3, .int (nI (i + 1))), (4, .ref (ad 6 i)), (0, .ref (ad 0 0)), (1, .int (nI s0)), (2, .int (nI v))]) hx hb dX7_patterns_52 hl (k := 4) rfl (nI_1 i) (by decide) rfl (fun ls hl => ?_)
      refine lv_goto (tgt := 8) hx hb dX7_patterns_55 (by decide) ?_
      exact ih _ locs ls ⟨rfl, hS, v, by rw [e_v, qsum, qB_f (fun h => c2 h.1)]; rfl, lv_sub hl [2, 3, 4, 0] rfl⟩
    · skip
      refine lv_aload hx hb dX7_patterns_41 (lv_at hl 0 rfl) ?_
      refine q_getN (C := RX4) (T := TX4) (N := 4) hx hb hts iRX4 hown hC.1 (hW.to (qLV6 hi)) rfl 3 (by decide) (va_Nw.use rfl (qf_RX7_127 hC)) rfl (v := .int (nI (σ 97 i))) rfl dX7_patterns_43 ?_
      refine q_ne0 (tgt := 52) hx hb (q31 (hB _ _)) dX7_patterns_46 (by decide) (fun c3 => ?_) (fun c3 => ?_)
      · skip
        refine lv_iinc (v := nI (i + 1)) (lv' := [(3, .int (nI (i + 1))), (4, .ref (ad 6 i)), (0, .ref (ad 0 0)), (1, .int (nI s0)), (2, .int (nI v))]) hx hb dX7_patterns_52 hl (k := 4) rfl (nI_1 i) (by decide) rfl (fun ls hl => ?_)
        refine lv_goto (tgt := 8) hx hb dX7_patterns_55 (by decide) ?_
        exact ih _ locs ls ⟨rfl, hS, v, by rw [e_v, qsum, qB_f (fun h => c3 h.2)]; rfl, lv_sub hl [2, 3, 4, 0] rfl⟩
      · skip
        refine lv_iinc (v := nI (v + 1)) (lv' := [(2, .int (nI (v + 1))), (4, .ref (ad 6 i)), (0, .ref (ad 0 0)), (1, .int (nI s0)), (3, .int (nI i))]) hx hb dX7_patterns_49 hl (k := 3) rfl (nI_1 v) (by decide) rfl (fun ls hl => ?_)
        refine lv_iinc (v := nI (i + 1)) (lv' := [(3, .int (nI (i + 1))), (2, .int (nI (v + 1))), (4, .ref (ad 6 i)), (0, .ref (ad 0 0)), (1, .int (nI s0))]) hx hb dX7_patterns_52 hl (k := 4) rfl (nI_1 i) (by decide) rfl (fun ls hl => ?_)
        refine lv_goto (tgt := 8) hx hb dX7_patterns_55 (by decide) ?_
        exact ih _ locs ls ⟨rfl, hS, (v + 1), by rw [e_v, qsum, qB_t ⟨c2, c3⟩], lv_sub hl [3, 4, 1, 0] rfl⟩
set_option maxHeartbeats 4000000 in
set_option maxRecDepth 100000 in
theorem m_kept (l : Launch) (G : QG) (es : Nat) (A : Nat → Prop) (σ ad : QSt) (hF : qWF σ) (s0 : Nat) (hs0 : s0 < 4) : Met l yX7_kept wsX7_kept ({ frames := 4, cells := 0, slots := 0, locals := 88 } : Room) (qR G es A σ ad [.ref (ad 0 0), .int (nI s0)]) (qPV (some (.int (nI (qkept σ s0))))) 0 0 (fun _ => False) := by
  refine Met.ofW (cc := cX7_kept) (maxL := 2) (ret := (some .int)) (by decide) rfl ?_
  intro p e s m args below meth c s₁ B hml hv
  obtain ⟨rfl, hC, hW⟩ := hv
  have hx := B.exec
  have hb := B.bytes
  have hr := B.returns
  have hts := atoms_spec (ws := wsX7_kept) B.pre
  have hown : s.vm.findClass RX7 = some m.cls := findClass_of_methodNamed B.named
  have hlocks := B.notSynchronized
  have hB := hF.1
  have hn := hF.n
  have hS : va_S (fun _ => False) s.heap s.heap [] := va_S.rf
  have hl := lv_entry ([.ref (ad 0 0), .int (nI s0)]) (n := 2) (Nat.le_of_ble_eq_true rfl)
  rw [lg_entry_eq]
  generalize (lg_sl ([.ref (ad 0 0), .int (nI s0)]) ++ List.replicate (2 - (lg_sl ([.ref (ad 0 0), .int (nI s0)])).length) Slot.unset).toArray = ls at hl ⊢
  have hl : lv_has ls 2 [(0, .ref (ad 0 0)), (1, .int (nI s0))] := hl
  have iRX7 : ∀ w ∈ wsX70, w ∈ wsX7_kept := by decide +kernel
  refine lv_iload_n hx hb dX7_kept_0 rfl (lv_at hl 1 rfl) ?_
  refine q_n (va_runS (As := [.int (nI s0)]) (rest := []) ⟨hx, hb, hml, hown, hts⟩ (m_checkSource l s0 hs0) (va_cwS 1 hts gX7_kept_X7_checkSource rfl rfl rfl (by decide +kernel) ⟨Nat.le_of_ble_eq_true rfl, Nat.le_of_ble_eq_true rfl⟩) ⟨qU.blind, qU.pre⟩ rfl rfl hl.1 rfl (lv_room (Nat.le_of_ble_eq_true rfl)) dX7_kept_1 ⟨Nat.le_of_ble_eq_true rfl, Nat.le_of_ble_eq_true rfl⟩) hS (fun _ h => h.elim) (fun locs hS => ?_)
  refine lv_aload_n hx hb dX7_kept_4 rfl (lv_at hl 0 rfl) ?_
  refine lv_iload_n hx hb dX7_kept_5 rfl (lv_at hl 1 rfl) ?_
  refine q_v (va_runV (As := [.int (nI s0)]) (rest := []) ⟨hx, hb, hml, hown, hts⟩ (m_keptBytes l G es A σ ad hF s0 (by omega)) (cwV 1 hts gX7_kept_X7_keptBytes rfl rfl rfl (by decide +kernel) ⟨Nat.le_of_ble_eq_true rfl, Nat.le_of_ble_eq_true rfl⟩) ⟨qR.blind, qrecv hC (hW.to qLV0) rfl, qR.pre hC hW⟩ rfl rfl hl.1 rfl (lv_room (Nat.le_of_ble_eq_true rfl)) dX7_kept_6 ⟨Nat.le_of_ble_eq_true rfl, Nat.le_of_ble_eq_true rfl⟩) hS (fun _ h => h.elim) (fun locs hS => ?_)
  exact W.iret hx hb hr (fun t ht _ => ⟨rfl, ht⟩) hS.2.2 dX7_kept_9
