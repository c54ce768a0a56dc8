theorem qfSa_step {σ : QSt} {l0 : Nat} (hT : ∀ i, i < σ 0 2 → qWF (qfCd (qfSa σ l0 i) i l0)) {i : Nat} (hi : i < σ 0 2) : qfSa σ l0 i 0 3 ≤ qfSa σ l0 (i + 1) 0 3 ∧ qfSa σ l0 i 32 3 ≤ qfSa σ l0 (i + 1) 32 3 := by
  have hc := qLook_cost (hT i hi) i
  rw [qfCd_0 (r := 0) (j := 3) (by decide), qfCd_0 (r := 32) (j := 3) (by decide)] at hc
  exact ⟨hc.1, hc.2.1⟩
theorem qfSa_mono {σ : QSt} {l0 : Nat} (hT : ∀ i, i < σ 0 2 → qWF (qfCd (qfSa σ l0 i) i l0)) (i : Nat) : ∀ d, i + d ≤ σ 0 2 → qfSa σ l0 i 0 3 ≤ qfSa σ l0 (i + d) 0 3 ∧ qfSa σ l0 i 32 3 ≤ qfSa σ l0 (i + d) 32 3
  | 0, _ => ⟨Nat.le_refl _, Nat.le_refl _⟩
  | d + 1, h => by
    have h1 := qfSa_mono hT i d (by omega)
    have h2 := qfSa_step hT (i := i + d) (by omega)
    exact ⟨Nat.le_trans h1.1 h2.1, Nat.le_trans h1.2 h2.2⟩

set_option maxHeartbeats 4000000 in
set_option maxRecDepth 100000 in
theorem m_showToAlerts (l : Launch) (G : QG) (es : Nat) (A : Nat → Prop) (σ ad : QSt) (hF : qWF σ) (l0 : Nat) (hl0 : l0 < σ 0 0) (hT : ∀ i, i < σ 0 2 → qWF (qfSa σ l0 i) ∧ qOk (qfCd (qfSa σ l0 i) i l0) i) (hTn : qWF (qfSa σ l0 (σ 0 2))) : Met l yX7_showToAlerts wsX7_showToAlerts ({ frames := 8, cells := (3 * ((qfSa σ l0 (σ 0 2)) 0 3 - σ 0 3)), slots := (10 * ((qfSa σ l0 (σ 0 2)) 0 3 - σ 0 3) + 3 * ((qfSa σ l0 (σ 0 2)) 32 3 - σ 32 3)), locals := 192 } : Room) (qW G es A σ ad [.ref (ad 0 0), .ref (ad 4 l0)]) (qWV none (fun H1 => ∃ ad', qAE σ ad ad' ∧ qLW G es A (qfSa σ l0 (σ 0 2)) ad' H1) A) (3 * ((qfSa σ l0 (σ 0 2)) 0 3 - σ 0 3)) (10 * ((qfSa σ l0 (σ 0 2)) 0 3 - σ 0 3) + 3 * ((qfSa σ l0 (σ 0 2)) 32 3 - σ 32 3)) A := by
  refine Met.ofW (cc := cX7_showToAlerts) (maxL := 4) (ret := none) (by decide) rfl ?_
  intro p e s m args below meth c s₁ B hml hv
  obtain ⟨rfl, hC, hW, hZ, hA⟩ := hv
  have hx := B.exec
  have hb := B.bytes
  have hr := B.returns
  have hts := atoms_spec (ws := wsX7_showToAlerts) B.pre
  have hown : s.vm.findClass RX7 = some m.cls := findClass_of_methodNamed B.named
  have hlocks := B.notSynchronized
  have hB := hF.1
  have hn := hF.n
  have hS : va_S A s.heap s.heap [] := va_S.rf
  have hl := lv_entry ([.ref (ad 0 0), .ref (ad 4 l0)]) (n := 4) (Nat.le_of_ble_eq_true rfl)
  rw [lg_entry_eq]
  generalize (lg_sl ([.ref (ad 0 0), .ref (ad 4 l0)]) ++ List.replicate (4 - (lg_sl ([.ref (ad 0 0), .ref (ad 4 l0)])).length) Slot.unset).toArray = ls at hl ⊢
  have hl : lv_has ls 4 [(0, .ref (ad 0 0)), (1, .ref (ad 4 l0))] := hl
  have iRX7 : ∀ w ∈ wsX70, w ∈ wsX7_showToAlerts := by decide +kernel
  have hT1 := fun i hi => (hT i hi).2.1
  have hOK := fun i hi => qfSa_ok hT1 i hi
  refine lv_iconst (v := nI 0) hx hb dX7_showToAlerts_0 (by decide) ?_
  refine lv_istore_n (lv' := [(2, .int (nI 0)), (0, .ref (ad 0 0)), (1, .ref (ad 4 l0))]) hx hb dX7_showToAlerts_1 rfl hl (by decide) rfl (fun ls hl => ?_)
  refine W.widen (k := 3 * ((qfSa σ l0 0) 0 3 - σ 0 3)) (n := (10 * ((qfSa σ l0 0) 0 3 - σ 0 3) + 3 * ((qfSa σ l0 0) 32 3 - σ 32 3))) (Nat.zero_le _) (Nat.zero_le _) ?_
  refine q_upF (σ 0 2) (fun k => 3 * ((qfSa σ l0 k) 0 3 - σ 0 3)) (fun k => (10 * ((qfSa σ l0 k) 0 3 - σ 0 3) + 3 * ((qfSa σ l0 k) 32 3 - σ 32 3))) (fun k H locs ls => ∃ ad2 : QSt, qAE σ ad ad2 ∧ qLW G es A (qfSa σ l0 k) ad2 H ∧ va_S A s.heap H locs ∧ lv_has ls 4 [(0, .ref (ad2 0 0)), (1, .ref (ad2 4 l0)), (2, .int (nI k))]) ?_ ?_ (i0 := 0) (Nat.zero_le _) ⟨ad, qAE.rf, hW, hS, lv_sub hl [1, 2, 0] rfl⟩
  · rintro H locs ls ⟨ad, hAE, hW, hS, hl⟩
    have hok := hOK (σ 0 2) (Nat.le_refl _)
    have h02 : (qfSa σ l0 (σ 0 2)) 0 2 = σ 0 2 := hok.1 2 (by decide)
    have h00 : (qfSa σ l0 (σ 0 2)) 0 0 = σ 0 0 := hok.1 0 (by decide)
    have hF9 := hTn
    refine lv_iload_n hx hb dX7_showToAlerts_2 rfl (lv_at hl 2 rfl) ?_
    refine lv_aload_n hx hb dX7_showToAlerts_3 rfl (lv_at hl 0 rfl) ?_
    refine q_get (C := RX7) (T := TX7) (N := 7) hx hb hts iRX7 hown hC.1 (hW.to qLV0) rfl 2 (by decide) (hts (.fieldLink RX7 19 "LogWeave" "alertList" "Ljava/util/ArrayList;") (List.mem_of_getElem? (i := 1) (by decide +kernel))) rfl (v := .ref (ad 1 2)) rfl dX7_showToAlerts_4 ?_
    refine q_v (va_runV (As := []) (rest := [.int (nI (σ 0 2))]) ⟨hx, hb, hml, hown, hts⟩ (m_size l G (ad 1 2) _ _ (nI ((qfSa σ l0 (σ 0 2)) 0 2))) (cwV 0 hts gX7_showToAlerts_Jx4a65c_size_8abf5 rfl rfl rfl (by decide +kernel) ⟨Nat.le_of_ble_eq_true rfl, Nat.le_of_ble_eq_true rfl⟩) ⟨qO.blind, qrecv hC (hW.to (qLV1 (j := 2) (by decide))) rfl, qO.pre hC (hW.lob (by decide))⟩ rfl rfl hl.1 rfl (lv_room (Nat.le_of_ble_eq_true rfl)) dX7_showToAlerts_7 ⟨by show 3 * ((qfSa σ l0 (σ 0 2)) 0 3 - σ 0 3) + 0 ≤ 3 * ((qfSa σ l0 (σ 0 2)) 0 3 - σ 0 3); omega, by show (10 * ((qfSa σ l0 (σ 0 2)) 0 3 - σ 0 3) + 3 * ((qfSa σ l0 (σ 0 2)) 32 3 - σ 32 3)) + 0 ≤ (10 * ((qfSa σ l0 (σ 0 2)) 0 3 - σ 0 3) + 3 * ((qfSa σ l0 (σ 0 2)) 32 3 - σ 32 3)); omega⟩) hS (fun _ h => h.elim) (fun locs hS => ?_)
    refine q_ti (y := nI (σ 0 2)) (by rw [h02]) ?_
    refine q_ge (tgt := 42) hx hb (q31 (hB _ _)) (q31 (hB _ _)) dX7_showToAlerts_10 (by decide) (fun g1 => ?_) (fun g1 => (by omega))
    exact W.vret hx hb hr (fun t ht _ => ⟨rfl, by rw [ht]; exact ⟨ad, hAE, hW⟩, hS.F ht⟩) hS.2.2 dX7_showToAlerts_42
  · rintro k H locs ls hi ⟨ad, hAE, hW, hS, hl⟩ ih
    have hok := hOK k (Nat.le_of_lt hi)
    have h02 : (qfSa σ l0 k) 0 2 = σ 0 2 := hok.1 2 (by decide)
    have h00 : (qfSa σ l0 k) 0 0 = σ 0 0 := hok.1 0 (by decide)
    have hF9 := (hT k hi).1
    have hmo := qfSa_mono hT1 k (σ 0 2 - k) (by omega)
    rw [show k + (σ 0 2 - k) = σ 0 2 by omega] at hmo
    have hm1 := qfSa_mono hT1 (k + 1) (σ 0 2 - (k + 1)) (by omega)
    rw [show k + 1 + (σ 0 2 - (k + 1)) = σ 0 2 by omega] at hm1
    have hk9 : k < (qfSa σ l0 k) 0 2 := by rw [h02]; exact hi
    have hl9 : l0 < (qfSa σ l0 k) 0 0 := by rw [h00]; exact hl0
    obtain ⟨hFT, hkT, hmT, hgT, haT, hnT, h6T⟩ := (hT k hi).2
    have t03 : (qfCd (qfSa σ l0 k) k l0) 0 3 = (qfSa σ l0 k) 0 3 := qfCd_0 (by decide)
    have t323 : (qfCd (qfSa σ l0 k) k l0) 32 3 = (qfSa σ l0 k) 32 3 := qfCd_0 (by decide)
    have hlT : l0 < (qfCd (qfSa σ l0 k) k l0) 0 0 := by rw [qfCd_0 (by decide)]; exact hl9
    have hcst := (qLook_cost hFT k)
    rw [t03, t323] at hcst
    have hs1 : qLook (qfCd (qfSa σ l0 k) k l0) k 0 3 = (qfSa σ l0 (k + 1)) 0 3 := rfl
    have hs2 : qLook (qfCd (qfSa σ l0 k) k l0) k 32 3 = (qfSa σ l0 (k + 1)) 32 3 := rfl
    rw [hs1, hs2] at hcst
    have hct : ∀ J, σ 0 J ≤ (qfCd (qfSa σ l0 k) k l0) 0 J := fun J => by rw [qfCd_0 (by decide)]; by_cases q : J = 3; rw [q]; exact hok.2.1; rw [hok.1 J q]; exact Nat.le_refl _
    refine lv_iload_n hx hb dX7_showToAlerts_2 rfl (lv_at hl 2 rfl) ?_
    refine lv_aload_n hx hb dX7_showToAlerts_3 rfl (lv_at hl 0 rfl) ?_
    refine q_get (C := RX7) (T := TX7) (N := 7) hx hb hts iRX7 hown hC.1 (hW.to qLV0) rfl 2 (by decide) (hts (.fieldLink RX7 19 "LogWeave" "alertList" "Ljava/util/ArrayList;") (List.mem_of_getElem? (i := 1) (by decide +kernel))) rfl (v := .ref (ad 1 2)) rfl dX7_showToAlerts_4 ?_
    refine q_v (va_runV (As := []) (rest := [.int (nI k)]) ⟨hx, hb, hml, hown, hts⟩ (m_size l G (ad 1 2) _ _ (nI ((qfSa σ l0 k) 0 2))) (cwV 0 hts gX7_showToAlerts_Jx4a65c_size_8abf5 rfl rfl rfl (by decide +kernel) ⟨Nat.le_of_ble_eq_true rfl, Nat.le_of_ble_eq_true rfl⟩) ⟨qO.blind, qrecv hC (hW.to (qLV1 (j := 2) (by decide))) rfl, qO.pre hC (hW.lob (by decide))⟩ rfl rfl hl.1 rfl (lv_room (Nat.le_of_ble_eq_true rfl)) dX7_showToAlerts_7 ⟨by show 3 * ((qfSa σ l0 k) 0 3 - σ 0 3) + 0 ≤ 3 * ((qfSa σ l0 (σ 0 2)) 0 3 - σ 0 3); omega, by show (10 * ((qfSa σ l0 k) 0 3 - σ 0 3) + 3 * ((qfSa σ l0 k) 32 3 - σ 32 3)) + 0 ≤ (10 * ((qfSa σ l0 (σ 0 2)) 0 3 - σ 0 3) + 3 * ((qfSa σ l0 (σ 0 2)) 32 3 - σ 32 3)); omega⟩) hS (fun _ h => h.elim) (fun locs hS => ?_)
    refine q_ti (y := nI (σ 0 2)) (by rw [h02]) ?_
    refine q_ge (tgt := 42) hx hb (by omega) (q31 (hB _ _)) dX7_showToAlerts_10 (by decide) (fun g2 => (by omega)) (fun g2 => ?_)
    refine lv_aload_n hx hb dX7_showToAlerts_13 rfl (lv_at hl 0 rfl) ?_
    refine q_get (C := RX7) (T := TX7) (N := 7) hx hb hts iRX7 hown hC.1 (hW.to qLV0) rfl 2 (by decide) (hts (.fieldLink RX7 19 "LogWeave" "alertList" "Ljava/util/ArrayList;") (List.mem_of_getElem? (i := 1) (by decide +kernel))) rfl (v := .ref (ad 1 2)) rfl dX7_showToAlerts_14 ?_
    refine lv_iload_n hx hb dX7_showToAlerts_17 rfl (lv_at hl 2 rfl) ?_
    refine q_v (va_runV (As := [.int (nI k)]) (rest := []) ⟨hx, hb, hml, hown, hts⟩ (m_get l G (ad 1 2) (ad 2 2) ((qfSa σ l0 k) 32 2) ((qfSa σ l0 k) 0 2) (fun i => if i < (qfSa σ l0 k) 0 2 then some (ad (4 + 2 * 2) i) else none) (.int (nI ((qfSa σ l0 k) 16 2))) k (ad 8 k) hk9 (hF9.c 2) (hF9.1 _ _) (if_pos hk9)) (cwV 1 hts gX7_showToAlerts_Jx4a65c_get_915e3 rfl rfl rfl (by decide +kernel) ⟨Nat.le_of_ble_eq_true rfl, Nat.le_of_ble_eq_true rfl⟩) ⟨qO.blind, qrecv hC (hW.to (qLV1 (j := 2) (by decide))) rfl, qO.pre hC (hW.list hF9 (J := 2) (by decide) hk9)⟩ rfl rfl hl.1 rfl (lv_room (Nat.le_of_ble_eq_true rfl)) dX7_showToAlerts_18 ⟨by show 3 * ((qfSa σ l0 k) 0 3 - σ 0 3) + 0 ≤ 3 * ((qfSa σ l0 (σ 0 2)) 0 3 - σ 0 3); omega, by show (10 * ((qfSa σ l0 k) 0 3 - σ 0 3) + 3 * ((qfSa σ l0 k) 32 3 - σ 32 3)) + 0 ≤ (10 * ((qfSa σ l0 (σ 0 2)) 0 3 - σ 0 3) + 3 * ((qfSa σ l0 (σ 0 2)) 32 3 - σ 32 3)); omega⟩) hS (fun _ h => h.elim) (fun locs hS => ?_)
    refine va_castS hx hb hown (hts (.classLink RX7 195 "LogWeave$Alert") (List.mem_of_getElem? (i := 2) (by decide +kernel))) (hC.1.1 3 _ rfl).2 (qrecv hC (hW.to (qLV8 hk9)) rfl) dX7_showToAlerts_21 ?_
    refine lv_astore_n (lv' := [(3, .ref (ad 8 k)), (0, .ref (ad 0 0)), (1, .ref (ad 4 l0)), (2, .int (nI k))]) hx hb dX7_showToAlerts_24 rfl hl (by decide) rfl (fun ls hl => ?_)
    refine lv_aload_n hx hb dX7_showToAlerts_25 rfl (lv_at hl 1 rfl) ?_
    refine lv_aload_n hx hb dX7_showToAlerts_26 rfl (lv_at hl 0 rfl) ?_
    refine lv_aload_n hx hb dX7_showToAlerts_27 rfl (lv_at hl 2 rfl) ?_
    refine q_wn (va_runV (As := [.ref (ad 8 k), .ref (ad 4 l0)]) (rest := []) ⟨hx, hb, hml, hown, hts⟩ (m_countIfDue l G es A (qfSa σ l0 k) ad hF9 k hk9 l0 hl9) (cwV 2 hts gX7_showToAlerts_X7_countIfDue rfl rfl rfl (by decide +kernel) ⟨Nat.le_of_ble_eq_true rfl, Nat.le_of_ble_eq_true rfl⟩) ⟨qW.blind, qrecv hC (hW.to qLV0) rfl, qW.pre hC hW hZ hS (fun _ h => h) (fun q h => hA q (Nat.le_trans hS.1 h))⟩ rfl rfl hl.1 rfl (lv_room (Nat.le_of_ble_eq_true rfl)) dX7_showToAlerts_28 ⟨by show 3 * ((qfSa σ l0 k) 0 3 - σ 0 3) + 0 ≤ 3 * ((qfSa σ l0 (σ 0 2)) 0 3 - σ 0 3); omega, by show (10 * ((qfSa σ l0 k) 0 3 - σ 0 3) + 3 * ((qfSa σ l0 k) 32 3 - σ 32 3)) + 0 ≤ (10 * ((qfSa σ l0 (σ 0 2)) 0 3 - σ 0 3) + 3 * ((qfSa σ l0 (σ 0 2)) 32 3 - σ 32 3)); omega⟩) hS (fun _ h => h) (fun _ h => h) (fun H locs hW hz hk hS => ?_)
    refine lv_aload_n hx hb dX7_showToAlerts_31 rfl (lv_at hl 1 rfl) ?_
    refine lv_aload_n hx hb dX7_showToAlerts_32 rfl (lv_at hl 0 rfl) ?_
    by_cases hq : qNew (qfCd (qfSa σ l0 k) k l0) k
    · skip
      have hcq := hcst.2.2 hq
      refine q_wn (va_runV (As := [.ref (ad 8 k)]) (rest := []) ⟨hx, hb, hml, hown, hts⟩ (m_lookAtAlertF l G es A (qfCd (qfSa σ l0 k) k l0) ad hFT k hkT hq.1 hq.2 hnT h6T hmT hgT (qgc (qfCd (qfSa σ l0 k) k l0)) (qgc_ok _)) (cwV 1 hts gX7_showToAlerts_X7_lookAtAlert rfl rfl rfl (by decide +kernel) ⟨Nat.le_of_ble_eq_true rfl, Nat.le_of_ble_eq_true rfl⟩) ⟨qW.blind, qrecv hC (hW.to qLV0) rfl, qW.pre hC hW hZ hS (fun _ h => h) (fun q h => hA q (Nat.le_trans hS.1 h))⟩ rfl rfl hl.1 rfl (lv_room (Nat.le_of_ble_eq_true rfl)) dX7_showToAlerts_33 ⟨by show 3 * ((qfSa σ l0 k) 0 3 - σ 0 3) + 0 + 3 ≤ 3 * ((qfSa σ l0 (σ 0 2)) 0 3 - σ 0 3); omega, by show (10 * ((qfSa σ l0 k) 0 3 - σ 0 3) + 3 * ((qfSa σ l0 k) 32 3 - σ 32 3)) + 0 + (9 + qgc (qfCd (qfSa σ l0 k) k l0)) ≤ (10 * ((qfSa σ l0 (σ 0 2)) 0 3 - σ 0 3) + 3 * ((qfSa σ l0 (σ 0 2)) 32 3 - σ 32 3)); omega⟩) hS (fun _ h => h) (fun _ h => h) (fun H locs hW hz hk hS => ?_)
      obtain ⟨ad3, hAE3, hW⟩ := hW
      refine lv_iinc (v := nI (k + 1)) (lv' := [(2, .int (nI (k + 1))), (3, .ref (ad 8 k)), (0, .ref (ad 0 0)), (1, .ref (ad 4 l0))]) hx hb dX7_showToAlerts_36 hl (k := 3) rfl (nI_1 k) (by decide) rfl (fun ls hl => ?_)
      refine lv_goto (tgt := 2) hx hb dX7_showToAlerts_39 (by decide) ?_
      refine W.widen (k := 3 * ((qfSa σ l0 (k + 1)) 0 3 - σ 0 3)) (n := (10 * ((qfSa σ l0 (k + 1)) 0 3 - σ 0 3) + 3 * ((qfSa σ l0 (k + 1)) 32 3 - σ 32 3))) (by show 3 * ((qfSa σ l0 k) 0 3 - σ 0 3) + 0 + 3 ≤ _; omega) (by show (10 * ((qfSa σ l0 k) 0 3 - σ 0 3) + 3 * ((qfSa σ l0 k) 32 3 - σ 32 3)) + 0 + (9 + qgc (qfCd (qfSa σ l0 k) k l0)) ≤ _; omega) ?_
      exact ih _ _ ls ⟨ad3, hAE.trans hAE3 hct, (by rw [show (qfSa σ l0 (k + 1)) = qfLn (qfCd (qfSa σ l0 k) k l0) k from qLook_t hq]; exact hW), hS, (by rw [hAE3 0 0 (by decide) (by omega), hAE3 4 l0 (by decide) (fun _ => hlT)]; exact lv_sub hl [2, 3, 0] rfl)⟩
    · skip
      refine q_wn (va_runV (As := [.ref (ad 8 k)]) (rest := []) ⟨hx, hb, hml, hown, hts⟩ (m_lookAtAlertN l G es A (qfCd (qfSa σ l0 k) k l0) ad hFT k hkT (fun h => ⟨fun z => hq ⟨h, Or.inl z⟩, fun z => hq ⟨h, Or.inr z⟩⟩) (fun z => (haT z).1) hmT (fun z => (haT z).2) hgT) (cwV 1 hts gX7_showToAlerts_X7_lookAtAlert rfl rfl rfl (by decide +kernel) ⟨Nat.le_of_ble_eq_true rfl, Nat.le_of_ble_eq_true rfl⟩) ⟨qW.blind, qrecv hC (hW.to qLV0) rfl, qW.pre hC hW hZ hS (fun _ h => h) (fun q h => hA q (Nat.le_trans hS.1 h))⟩ rfl rfl hl.1 rfl (lv_room (Nat.le_of_ble_eq_true rfl)) dX7_showToAlerts_33 ⟨by show 3 * ((qfSa σ l0 k) 0 3 - σ 0 3) + 0 + 0 ≤ 3 * ((qfSa σ l0 (σ 0 2)) 0 3 - σ 0 3); omega, by show (10 * ((qfSa σ l0 k) 0 3 - σ 0 3) + 3 * ((qfSa σ l0 k) 32 3 - σ 32 3)) + 0 + 0 ≤ (10 * ((qfSa σ l0 (σ 0 2)) 0 3 - σ 0 3) + 3 * ((qfSa σ l0 (σ 0 2)) 32 3 - σ 32 3)); omega⟩) hS (fun _ h => h) (fun _ h => h) (fun H locs hW hz hk hS => ?_)
      refine lv_iinc (v := nI (k + 1)) (lv' := [(2, .int (nI (k + 1))), (3, .ref (ad 8 k)), (0, .ref (ad 0 0)), (1, .ref (ad 4 l0))]) hx hb dX7_showToAlerts_36 hl (k := 3) rfl (nI_1 k) (by decide) rfl (fun ls hl => ?_)
      refine lv_goto (tgt := 2) hx hb dX7_showToAlerts_39 (by decide) ?_
      refine W.widen (k := 3 * ((qfSa σ l0 (k + 1)) 0 3 - σ 0 3)) (n := (10 * ((qfSa σ l0 (k + 1)) 0 3 - σ 0 3) + 3 * ((qfSa σ l0 (k + 1)) 32 3 - σ 32 3))) (by show 3 * ((qfSa σ l0 k) 0 3 - σ 0 3) + 0 + 0 ≤ _; omega) (by show (10 * ((qfSa σ l0 k) 0 3 - σ 0 3) + 3 * ((qfSa σ l0 k) 32 3 - σ 32 3)) + 0 + 0 ≤ _; omega) ?_
      exact ih _ _ ls ⟨ad, hAE, (by rw [show (qfSa σ l0 (k + 1)) = qfLk (qfCd (qfSa σ l0 k) k l0) k from qLook_f hq]; exact hW), hS, lv_sub hl [2, 3, 0] rfl⟩
