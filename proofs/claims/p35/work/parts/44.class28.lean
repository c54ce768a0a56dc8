set_option maxHeartbeats 4000000 in
set_option maxRecDepth 100000 in
theorem m_bytes (l : Launch) (G : QG) (es : Nat) (A : Nat → Prop) (σ ad : QSt) (hF : qWF σ)  : Met l yX7_bytes wsX7_bytes ({ frames := 3, cells := 0, slots := 0, locals := 64 } : Room) (qR G es A σ ad [.ref (ad 0 0)]) (qPV (some (.long (lN (qsum (fun l => σ 66 l) (σ 0 0)))))) 0 0 (fun _ => False) := by
  refine Met.ofW (cc := cX7_bytes) (maxL := 4) (ret := (some .long)) (by decide) rfl ?_
  intro p e s m args below meth c s₁ B hml hv
  obtain ⟨rfl, hC, hW⟩ := hv
  have hx := B.exec
  have hb := B.bytes
  have hr := B.returns
  have hts := atoms_spec (ws := wsX7_bytes) B.pre
  have hown : s.vm.findClass RX7 = some m.cls := findClass_of_methodNamed B.named
  have hlocks := B.notSynchronized
  have hB := hF.1
  have hn := hF.n
  have hS : va_S (fun _ => False) s.heap s.heap [] := va_S.rf
  have hl := lv_entry ([.ref (ad 0 0)]) (n := 4) (Nat.le_of_ble_eq_true rfl)
  rw [lg_entry_eq]
  generalize (lg_sl ([.ref (ad 0 0)]) ++ List.replicate (4 - (lg_sl ([.ref (ad 0 0)])).length) Slot.unset).toArray = ls at hl ⊢
  have hl : lv_has ls 4 [(0, .ref (ad 0 0))] := hl
  have iRX7 : ∀ w ∈ wsX70, w ∈ wsX7_bytes := by decide +kernel
  have iRX3 : ∀ w ∈ wsX30, w ∈ wsX7_bytes := by decide +kernel
  refine lv_lconst (v := lN 0) hx hb dX7_bytes_0 (by decide) ?_
  refine lv_lstore_n (lv' := [(1, .long (lN 0)), (0, .ref (ad 0 0))]) hx hb dX7_bytes_1 rfl hl (by decide) rfl (fun ls hl => ?_)
  refine lv_iconst (v := nI 0) hx hb dX7_bytes_2 (by decide) ?_
  refine lv_istore_n (lv' := [(3, .int (nI 0)), (1, .long (lN 0)), (0, .ref (ad 0 0))]) hx hb dX7_bytes_3 rfl hl (by decide) rfl (fun ls hl => ?_)
  refine q_up (σ 0 0) (fun i H locs ls => H = s.heap ∧ va_S (fun _ => False) s.heap H locs ∧ ∃ (v : Nat), (v = qsum (fun l => σ 66 l) i) ∧ lv_has ls 4 [(0, .ref (ad 0 0)), (1, .long (lN v)), (3, .int (nI i))]) ?_ ?_ (i0 := 0) (Nat.zero_le _) ⟨rfl, hS, 0, rfl, lv_sub hl [2, 1, 0] rfl⟩
  · rintro _ locs ls ⟨rfl, hS, v, e_v, hl⟩
    refine lv_iload_n hx hb dX7_bytes_4 rfl (lv_at hl 2 rfl) ?_
    refine lv_aload_n hx hb dX7_bytes_5 rfl (lv_at hl 0 rfl) ?_
    refine q_get (C := RX7) (T := TX7) (N := 7) hx hb hts iRX7 hown hC.1 (hW.to qLV0) rfl 0 (by decide) (hts (.fieldLink RX7 10 "LogWeave" "lineList" "Ljava/util/ArrayList;") (List.mem_of_getElem? (i := 1) (by decide +kernel))) rfl (v := .ref (ad 1 0)) rfl dX7_bytes_6 ?_
    refine q_v (va_runV (As := []) (rest := [.int (nI (σ 0 0))]) ⟨hx, hb, hml, hown, hts⟩ (m_size l G (ad 1 0) _ _ (nI (σ 0 0))) (cwV 0 hts gX7_bytes_Jx4a65c_size_8abf5 rfl rfl rfl (by decide +kernel) ⟨Nat.le_of_ble_eq_true rfl, Nat.le_of_ble_eq_true rfl⟩) ⟨qO.blind, qrecv hC (hW.to (qLV1 (j := 0) (by decide))) rfl, qO.pre hC (hW.lob (by decide))⟩ rfl rfl hl.1 rfl (lv_room (Nat.le_of_ble_eq_true rfl)) dX7_bytes_9 ⟨Nat.le_of_ble_eq_true rfl, Nat.le_of_ble_eq_true rfl⟩) hS (fun _ h => h.elim) (fun locs hS => ?_)
    refine q_ge (tgt := 39) hx hb (q31 (hB _ _)) (q31 (hB _ _)) dX7_bytes_12 (by decide) (fun g1 => ?_) (fun g1 => (by omega))
    refine lv_lload_n hx hb dX7_bytes_39 rfl (lv_at hl 1 rfl) ?_
    exact W.lret hx hb hr (fun t ht _ => ⟨by rw [e_v], ht⟩) hS.2.2 dX7_bytes_40
  · rintro i _ locs ls hi ⟨rfl, hS, v, e_v, hl⟩ ih
    refine lv_iload_n hx hb dX7_bytes_4 rfl (lv_at hl 2 rfl) ?_
    refine lv_aload_n hx hb dX7_bytes_5 rfl (lv_at hl 0 rfl) ?_
    refine q_get (C := RX7) (T := TX7) (N := 7) hx hb hts iRX7 hown hC.1 (hW.to qLV0) rfl 0 (by decide) (hts (.fieldLink RX7 10 "LogWeave" "lineList" "Ljava/util/ArrayList;") (List.mem_of_getElem? (i := 1) (by decide +kernel))) rfl (v := .ref (ad 1 0)) rfl dX7_bytes_6 ?_
    refine q_v (va_runV (As := []) (rest := [.int (nI i)]) ⟨hx, hb, hml, hown, hts⟩ (m_size l G (ad 1 0) _ _ (nI (σ 0 0))) (cwV 0 hts gX7_bytes_Jx4a65c_size_8abf5 rfl rfl rfl (by decide +kernel) ⟨Nat.le_of_ble_eq_true rfl, Nat.le_of_ble_eq_true rfl⟩) ⟨qO.blind, qrecv hC (hW.to (qLV1 (j := 0) (by decide))) rfl, qO.pre hC (hW.lob (by decide))⟩ rfl rfl hl.1 rfl (lv_room (Nat.le_of_ble_eq_true rfl)) dX7_bytes_9 ⟨Nat.le_of_ble_eq_true rfl, Nat.le_of_ble_eq_true rfl⟩) hS (fun _ h => h.elim) (fun locs hS => ?_)
    refine q_ge (tgt := 39) hx hb (by omega) (q31 (hB _ _)) dX7_bytes_12 (by decide) (fun g2 => (by omega)) (fun g2 => ?_)
    refine lv_lload_n hx hb dX7_bytes_15 rfl (lv_at hl 1 rfl) ?_
    refine lv_aload_n hx hb dX7_bytes_16 rfl (lv_at hl 0 rfl) ?_
    refine q_get (C := RX7) (T := TX7) (N := 7) hx hb hts iRX7 hown hC.1 (hW.to qLV0) rfl 0 (by decide) (hts (.fieldLink RX7 10 "LogWeave" "lineList" "Ljava/util/ArrayList;") (List.mem_of_getElem? (i := 1) (by decide +kernel))) rfl (v := .ref (ad 1 0)) rfl dX7_bytes_17 ?_
    refine lv_iload_n hx hb dX7_bytes_20 rfl (lv_at hl 2 rfl) ?_
    refine q_v (va_runV (As := [.int (nI i)]) (rest := [.long (lN v)]) ⟨hx, hb, hml, hown, hts⟩ (m_get l G (ad 1 0) (ad 2 0) (σ 32 0) (σ 0 0) (fun i => if i < σ 0 0 then some (ad (4 + 2 * 0) i) else none) (.int (nI (σ 16 0))) i (ad 4 i) hi (hF.c 0) (hB _ _) (if_pos hi)) (cwV 1 hts gX7_bytes_Jx4a65c_get_915e3 rfl rfl rfl (by decide +kernel) ⟨Nat.le_of_ble_eq_true rfl, Nat.le_of_ble_eq_true rfl⟩) ⟨qO.blind, qrecv hC (hW.to (qLV1 (j := 0) (by decide))) rfl, qO.pre hC (hW.list hF (J := 0) (by decide) hi)⟩ rfl rfl hl.1 rfl (lv_room (Nat.le_of_ble_eq_true rfl)) dX7_bytes_21 ⟨Nat.le_of_ble_eq_true rfl, Nat.le_of_ble_eq_true rfl⟩) hS (fun _ h => h.elim) (fun locs hS => ?_)
    refine va_castS hx hb hown (hts (.classLink RX7 74 "LogWeave$Line") (List.mem_of_getElem? (i := 2) (by decide +kernel))) (hC.1.1 6 _ rfl).2 (qrecv hC (hW.to (qLV4 hi)) rfl) dX7_bytes_24 ?_
    refine q_getN (C := RX3) (T := TX3) (N := 8) hx hb hts iRX3 hown hC.1 (hW.to (qLV4 hi)) rfl 3 (by decide) (va_Nw.use rfl (qf_RX7_273 hC)) rfl (v := .int (nI (σ 66 i))) rfl dX7_bytes_27 ?_
    refine lv_i2l (v := lN (σ 66 i)) hx hb dX7_bytes_30 (nI_l (q31 (hB _ _))) ?_
    refine lv_ladd hx hb dX7_bytes_31 ?_
    refine q_tl (lN_add v (σ 66 i)) ?_
    refine lv_lstore_n (lv' := [(1, .long (lN (v + (σ 66 i)))), (0, .ref (ad 0 0)), (3, .int (nI i))]) hx hb dX7_bytes_32 rfl hl (by decide) rfl (fun ls hl => ?_)
    refine lv_iinc (v := nI (i + 1)) (lv' := [(3, .int (nI (i + 1))), (1, .long (lN (v + (σ 66 i)))), (0, .ref (ad 0 0))]) hx hb dX7_bytes_33 hl (k := 2) rfl (nI_1 i) (by decide) rfl (fun ls hl => ?_)
    refine lv_goto (tgt := 4) hx hb dX7_bytes_36 (by decide) ?_
    exact ih _ locs ls ⟨rfl, hS, (v + σ 66 i), by rw [e_v, qsum], lv_sub hl [2, 1, 0] rfl⟩
