theorem qdf_self (f : Nat → Nat) : ∀ n, qdf f f n = 0
  | 0 => rfl
  | n + 1 => by unfold qdf; rw [qdf_self f n]; simp [qB]
set_option maxHeartbeats 4000000 in
set_option maxRecDepth 100000 in
theorem m_mergeFrom (l : Launch) (G : QG) (es : Nat) (A : Nat → Prop) (σ ad : QSt) (hF : qWF σ) (c0 : Nat) (hc0 : c0 < σ 0 1) : Met l yX7_mergeFrom wsX7_mergeFrom ({ frames := 4, cells := 0, slots := 0, locals := 88 } : Room) (qW G es A σ ad [.ref (ad 0 0), .ref (ad 6 c0)]) (qWV (none) (qLW G es A (qmI σ c0 (σ 0 1)).1 ad) A) 0 0 A := by
  refine Met.ofW (cc := cX7_mergeFrom) (maxL := 5) (ret := none) (by decide) rfl ?_
  intro p e s m args below meth c s₁ B hml hv
  obtain ⟨rfl, hC, hW, hZ, hA⟩ := hv
  have hx := B.exec
  have hb := B.bytes
  have hr := B.returns
  have hts := atoms_spec (ws := wsX7_mergeFrom) B.pre
  have hown : s.vm.findClass RX7 = some m.cls := findClass_of_methodNamed B.named
  have hlocks := B.notSynchronized
  have hB := hF.1
  have hn := hF.n
  have hS : va_S A s.heap s.heap [] := va_S.rf
  have hl := lv_entry ([.ref (ad 0 0), .ref (ad 6 c0)]) (n := 5) (Nat.le_of_ble_eq_true rfl)
  rw [lg_entry_eq]
  generalize (lg_sl ([.ref (ad 0 0), .ref (ad 6 c0)]) ++ List.replicate (5 - (lg_sl ([.ref (ad 0 0), .ref (ad 6 c0)])).length) Slot.unset).toArray = ls at hl ⊢
  have hl : lv_has ls 5 [(0, .ref (ad 0 0)), (1, .ref (ad 6 c0))] := hl
  have iRX7 : ∀ w ∈ wsX70, w ∈ wsX7_mergeFrom := by decide +kernel
  have iRX4 : ∀ w ∈ wsX40, w ∈ wsX7_mergeFrom := by decide +kernel
  have hI := qmI_ok hF hc0
  refine lv_aload_n hx hb dX7_mergeFrom_0 rfl (lv_at hl 1 rfl) ?_
  refine lv_astore_n (lv' := [(2, .ref (ad 6 c0)), (0, .ref (ad 0 0)), (1, .ref (ad 6 c0))]) hx hb dX7_mergeFrom_1 rfl hl (by decide) rfl (fun ls hl => ?_)
  refine lv_iconst (v := nI 0) hx hb dX7_mergeFrom_2 (by decide) ?_
  refine lv_istore_n (lv' := [(3, .int (nI 0)), (2, .ref (ad 6 c0)), (0, .ref (ad 0 0)), (1, .ref (ad 6 c0))]) hx hb dX7_mergeFrom_3 rfl hl (by decide) rfl (fun ls hl => ?_)
  refine q_up (σ 0 1) (fun i H locs ls => qLW G es A (qmI σ c0 i).1 ad H ∧ va_S A s.heap H locs ∧ lv_has ls 5 [(0, .ref (ad 0 0)), (1, .ref (ad 6 c0)), (2, .ref (ad 6 ((qmI σ c0 i).2))), (3, .int (nI i))]) ?_ ?_ (i0 := 0) (Nat.zero_le _) ⟨hW, hS, lv_sub hl [2, 3, 1, 0] rfl⟩
  · rintro H locs ls ⟨hW, hS, hl⟩
    obtain ⟨hF9, hc9, hR⟩ := hI (σ 0 1)
    have h019 : (qmI σ c0 (σ 0 1)).1 0 1 = σ 0 1 := hR 0 1 (by omega) (by omega) (by omega)
    refine lv_iload_n hx hb dX7_mergeFrom_4 rfl (lv_at hl 3 rfl) ?_
    refine lv_aload_n hx hb dX7_mergeFrom_5 rfl (lv_at hl 0 rfl) ?_
    refine q_get (C := RX7) (T := TX7) (N := 7) hx hb hts iRX7 hown hC.1 (hW.to qLV0) rfl 1 (by decide) (hts (.fieldLink RX7 16 "LogWeave" "patternList" "Ljava/util/ArrayList;") (List.mem_of_getElem? (i := 1) (by decide +kernel))) rfl (v := .ref (ad 1 1)) rfl dX7_mergeFrom_6 ?_
    refine q_v (va_runV (As := []) (rest := [.int (nI (σ 0 1))]) ⟨hx, hb, hml, hown, hts⟩ (m_size l G (ad 1 1) _ _ (nI ((qmI σ c0 (σ 0 1)).1 0 1))) (cwV 0 hts gX7_mergeFrom_Jx4a65c_size_8abf5 rfl rfl rfl (by decide +kernel) ⟨Nat.le_of_ble_eq_true rfl, Nat.le_of_ble_eq_true rfl⟩) ⟨qO.blind, qrecv hC (hW.to (qLV1 (j := 1) (by decide))) rfl, qO.pre hC (hW.lob (by decide))⟩ rfl rfl hl.1 rfl (lv_room (Nat.le_of_ble_eq_true rfl)) dX7_mergeFrom_9 ⟨Nat.le_of_ble_eq_true rfl, Nat.le_of_ble_eq_true rfl⟩) hS (fun _ h => h.elim) (fun locs hS => ?_)
    refine q_ti (y := nI (σ 0 1)) (by rw [h019]) ?_
    refine q_ge (tgt := 66) hx hb (q31 (hB _ _)) (q31 (hB _ _)) dX7_mergeFrom_12 (by decide) (fun g1 => ?_) (fun g1 => (by omega))
    exact W.vret hx hb hr (fun t ht _ => ⟨rfl, by rw [ht]; exact hW, hS.F ht⟩) hS.2.2 dX7_mergeFrom_66
  · rintro i H locs ls hi ⟨hW, hS, hl⟩ ih
    obtain ⟨hF9, hc9, hR⟩ := hI i
    have h019 : (qmI σ c0 i).1 0 1 = σ 0 1 := hR 0 1 (by omega) (by omega) (by omega)
    refine lv_iload_n hx hb dX7_mergeFrom_4 rfl (lv_at hl 3 rfl) ?_
    refine lv_aload_n hx hb dX7_mergeFrom_5 rfl (lv_at hl 0 rfl) ?_
    refine q_get (C := RX7) (T := TX7) (N := 7) hx hb hts iRX7 hown hC.1 (hW.to qLV0) rfl 1 (by decide) (hts (.fieldLink RX7 16 "LogWeave" "patternList" "Ljava/util/ArrayList;") (List.mem_of_getElem? (i := 1) (by decide +kernel))) rfl (v := .ref (ad 1 1)) rfl dX7_mergeFrom_6 ?_
    refine q_v (va_runV (As := []) (rest := [.int (nI i)]) ⟨hx, hb, hml, hown, hts⟩ (m_size l G (ad 1 1) _ _ (nI ((qmI σ c0 i).1 0 1))) (cwV 0 hts gX7_mergeFrom_Jx4a65c_size_8abf5 rfl rfl rfl (by decide +kernel) ⟨Nat.le_of_ble_eq_true rfl, Nat.le_of_ble_eq_true rfl⟩) ⟨qO.blind, qrecv hC (hW.to (qLV1 (j := 1) (by decide))) rfl, qO.pre hC (hW.lob (by decide))⟩ rfl rfl hl.1 rfl (lv_room (Nat.le_of_ble_eq_true rfl)) dX7_mergeFrom_9 ⟨Nat.le_of_ble_eq_true rfl, Nat.le_of_ble_eq_true rfl⟩) hS (fun _ h => h.elim) (fun locs hS => ?_)
    refine q_ti (y := nI (σ 0 1)) (by rw [h019]) ?_
    refine q_ge (tgt := 66) hx hb (by have := hF.n; omega) (q31 (hB _ _)) dX7_mergeFrom_12 (by decide) (fun g2 => (by omega)) (fun g2 => ?_)
    refine lv_aload_n hx hb dX7_mergeFrom_15 rfl (lv_at hl 0 rfl) ?_
    refine lv_aload_n hx hb dX7_mergeFrom_16 rfl (lv_at hl 2 rfl) ?_
    have hcT : ((qmI σ c0 i).2) < (qmI σ c0 i).1 0 1 := by rw [h019]; exact hc9
    refine q_v (va_runV (As := [.ref (ad 6 ((qmI σ c0 i).2))]) (rest := []) ⟨hx, hb, hml, hown, hts⟩ (m_partnerOf l G es A (qmI σ c0 i).1 ad hF9 ((qmI σ c0 i).2) hcT (qpt (qmI σ c0 i).1 ((qmI σ c0 i).2)) (qpt_is _ _)) (cwV 1 hts gX7_mergeFrom_X7_partnerOf rfl rfl rfl (by decide +kernel) ⟨Nat.le_of_ble_eq_true rfl, Nat.le_of_ble_eq_true rfl⟩) ⟨qR.blind, qrecv hC (hW.to qLV0) rfl, qR.pre hC hW⟩ rfl rfl hl.1 rfl (lv_room (Nat.le_of_ble_eq_true rfl)) dX7_mergeFrom_17 ⟨Nat.le_of_ble_eq_true rfl, Nat.le_of_ble_eq_true rfl⟩) hS (fun _ h => h.elim) (fun locs hS => ?_)
    rcases hpt : qpt (qmI σ c0 i).1 ((qmI σ c0 i).2) with _ | q
    · skip
      refine q_t (w := .null) rfl ?_
      refine lv_astoreN (lv' := [(4, .null), (0, .ref (ad 0 0)), (1, .ref (ad 6 c0)), (2, .ref (ad 6 ((qmI σ c0 i).2))), (3, .int (nI i))]) hx hb dX7_mergeFrom_20 hl (by decide) rfl (fun ls hl => ?_)
      refine lv_aloadN hx hb dX7_mergeFrom_22 (lv_at hl 0 rfl) ?_
      refine lv_ifnonnullN hx hb dX7_mergeFrom_24 ?_
      exact W.vret hx hb hr (fun t ht _ => ⟨rfl, by rw [ht]; exact (by rw [show σ 0 1 = i + (σ 0 1 - i) by omega, qmI_stop hpt]; exact hW), hS.F ht⟩) hS.2.2 dX7_mergeFrom_27
    · skip
      refine q_t (w := .ref (ad 6 q)) rfl ?_
      obtain ⟨hqT, hqp, -⟩ := qpt_some hpt
      have hqc : q ≠ ((qmI σ c0 i).2) := fun z => by have h1 := hqp.2.2; rw [z, qdf_self] at h1; exact absurd h1 (by decide)
      refine lv_astore (lv' := [(4, .ref (ad 6 q)), (0, .ref (ad 0 0)), (1, .ref (ad 6 c0)), (2, .ref (ad 6 ((qmI σ c0 i).2))), (3, .int (nI i))]) hx hb dX7_mergeFrom_20 hl (by decide) rfl (fun ls hl => ?_)
      refine lv_aload hx hb dX7_mergeFrom_22 (lv_at hl 0 rfl) ?_
      refine lv_ifnonnull (tgt := 28) hx hb dX7_mergeFrom_24 (by decide) ?_
      refine lv_aload hx hb dX7_mergeFrom_28 (lv_at hl 0 rfl) ?_
      refine q_getN (C := RX4) (T := TX4) (N := 4) hx hb hts iRX4 hown hC.1 (hW.to (qLV6 hqT)) rfl 0 (by decide) (va_Nw.use rfl (qf_RX7_111 hC)) rfl (v := .int (nI q)) rfl dX7_mergeFrom_30 ?_
      refine lv_aload_n hx hb dX7_mergeFrom_33 rfl (lv_at hl 3 rfl) ?_
      refine q_getN (C := RX4) (T := TX4) (N := 4) hx hb hts iRX4 hown hC.1 (hW.to (qLV6 hcT)) rfl 0 (by decide) (va_Nw.use rfl (qf_RX7_111 hC)) rfl (v := .int (nI ((qmI σ c0 i).2))) rfl dX7_mergeFrom_34 ?_
      refine q_ge (tgt := 53) hx hb (by have := hF9.n; omega) (by have := hF9.n; omega) dX7_mergeFrom_37 (by decide) (fun c2 => ?_) (fun c2 => ?_)
      · skip
        refine lv_aload_n hx hb dX7_mergeFrom_53 rfl (lv_at hl 1 rfl) ?_
        refine lv_aload_n hx hb dX7_mergeFrom_54 rfl (lv_at hl 3 rfl) ?_
        refine lv_aload hx hb dX7_mergeFrom_55 (lv_at hl 0 rfl) ?_
        refine q_wn (va_runV (As := [.ref (ad 6 ((qmI σ c0 i).2)), .ref (ad 6 q)]) (rest := []) ⟨hx, hb, hml, hown, hts⟩ (m_merge l G es A (qmI σ c0 i).1 ad hF9 ((qmI σ c0 i).2) q hcT hqT (Ne.symm hqc)) (cwV 2 hts gX7_mergeFrom_X7_merge rfl rfl rfl (by decide +kernel) ⟨Nat.le_of_ble_eq_true rfl, Nat.le_of_ble_eq_true rfl⟩) ⟨qW.blind, qrecv hC (hW.to qLV0) rfl, qW.pre hC hW hZ hS (fun _ h => h) (fun q h => hA q (Nat.le_trans hS.1 h))⟩ rfl rfl hl.1 rfl (lv_room (Nat.le_of_ble_eq_true rfl)) dX7_mergeFrom_57 ⟨Nat.le_of_ble_eq_true rfl, Nat.le_of_ble_eq_true rfl⟩) hS (fun _ h => h) (fun _ h => h) (fun H locs hW hz hk hS => ?_)
        refine lv_iinc (v := nI (i + 1)) (lv' := [(3, .int (nI (i + 1))), (4, .ref (ad 6 q)), (0, .ref (ad 0 0)), (1, .ref (ad 6 c0)), (2, .ref (ad 6 ((qmI σ c0 i).2)))]) hx hb dX7_mergeFrom_60 hl (k := 4) rfl (nI_1 i) (by decide) rfl (fun ls hl => ?_)
        refine lv_goto (tgt := 4) hx hb dX7_mergeFrom_63 (by decide) ?_
        have e8 := qmI_ge hpt c2
        have e9 : ((qmI σ c0 i).2) = (qmI σ c0 (i + 1)).2 := by rw [e8]
        rw [e9] at hl
        exact ih _ _ ls ⟨(by rw [e8]; exact hW), hS, lv_sub hl [2, 3, 4, 0] rfl⟩
      · skip
        refine lv_aload_n hx hb dX7_mergeFrom_40 rfl (lv_at hl 1 rfl) ?_
        refine lv_aload hx hb dX7_mergeFrom_41 (lv_at hl 0 rfl) ?_
        refine lv_aload_n hx hb dX7_mergeFrom_43 rfl (lv_at hl 3 rfl) ?_
        refine q_wn (va_runV (As := [.ref (ad 6 q), .ref (ad 6 ((qmI σ c0 i).2))]) (rest := []) ⟨hx, hb, hml, hown, hts⟩ (m_merge l G es A (qmI σ c0 i).1 ad hF9 q ((qmI σ c0 i).2) hqT hcT hqc) (cwV 2 hts gX7_mergeFrom_X7_merge rfl rfl rfl (by decide +kernel) ⟨Nat.le_of_ble_eq_true rfl, Nat.le_of_ble_eq_true rfl⟩) ⟨qW.blind, qrecv hC (hW.to qLV0) rfl, qW.pre hC hW hZ hS (fun _ h => h) (fun q h => hA q (Nat.le_trans hS.1 h))⟩ rfl rfl hl.1 rfl (lv_room (Nat.le_of_ble_eq_true rfl)) dX7_mergeFrom_44 ⟨Nat.le_of_ble_eq_true rfl, Nat.le_of_ble_eq_true rfl⟩) hS (fun _ h => h) (fun _ h => h) (fun H locs hW hz hk hS => ?_)
        refine lv_aload hx hb dX7_mergeFrom_47 (lv_at hl 0 rfl) ?_
        refine lv_astore_n (lv' := [(2, .ref (ad 6 q)), (4, .ref (ad 6 q)), (0, .ref (ad 0 0)), (1, .ref (ad 6 c0)), (3, .int (nI i))]) hx hb dX7_mergeFrom_49 rfl hl (by decide) rfl (fun ls hl => ?_)
        refine lv_goto (tgt := 60) hx hb dX7_mergeFrom_50 (by decide) ?_
        refine lv_iinc (v := nI (i + 1)) (lv' := [(3, .int (nI (i + 1))), (2, .ref (ad 6 q)), (4, .ref (ad 6 q)), (0, .ref (ad 0 0)), (1, .ref (ad 6 c0))]) hx hb dX7_mergeFrom_60 hl (k := 4) rfl (nI_1 i) (by decide) rfl (fun ls hl => ?_)
        refine lv_goto (tgt := 4) hx hb dX7_mergeFrom_63 (by decide) ?_
        have e8 := qmI_lt hpt c2
        have e9 : q = (qmI σ c0 (i + 1)).2 := by rw [e8]
        have e10 : ad 6 q = ad 6 (qmI σ c0 (i + 1)).2 := congrArg (ad 6) e9
        rw [e10] at hl
        exact ih _ _ ls ⟨(by rw [e8]; exact hW), hS, lv_sub hl [3, 4, 1, 0] rfl⟩
