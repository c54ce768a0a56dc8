/-! a tick -/
def qfNow (σ : QSt) : QSt := qup σ 1 0 (σ 1 0 + 1)
theorem qfNow_wf {σ : QSt} (h : qWF σ) (hn : σ 1 0 + 1 < 1073741824) : qWF (qfNow σ) := by
  obtain ⟨h1, h2, h3, h4, h5, h6, h7, h8, h9⟩ := h
  refine ⟨fun r j => ?_, h2, h3, h4, h5, h6, fun i hi => ?_, h8, h9⟩
  · unfold qfNow qup
    split
    · exact hn
    · exact h1 r j
  · have k := h7 i hi
    exact ⟨Nat.le_succ_of_le k.1, k.2⟩
def qfTa (σ : QSt) (a : Nat) : QSt := qfSh (qfFl σ a) a
theorem qfSh_r {σ : QSt} {a r j : Nat} (h1 : r ≠ 131) (h2 : r ≠ 133) : qfSh σ a r j = σ r j := by
  unfold qfSh
  split
  · split
    · exact qup_k h2
    · rw [qup_k h1, qup_k h2]
  · rfl
theorem qfTa_lo {σ : QSt} {a r j : Nat} (h : r < 64) : qfTa σ a r j = σ r j := by
  unfold qfTa qfFl
  rw [qfSh_r (by omega) (by omega), qfFlS_r σ a _ j (by omega) (by omega)]
def qfTk (σ : QSt) : Nat → QSt
  | 0 => qfNow σ
  | i + 1 => qLook (qfTa (qfTk σ i) i) i
theorem qfTk_step {σ : QSt} {i : Nat} (h : qWF (qfTa (qfTk σ i) i)) : qfTk σ i 0 3 ≤ qfTk σ (i + 1) 0 3 ∧ qfTk σ i 32 3 ≤ qfTk σ (i + 1) 32 3 := by
  have hc := qLook_cost h i
  rw [qfTa_lo (r := 0) (j := 3) (by decide), qfTa_lo (r := 32) (j := 3) (by decide)] at hc
  exact ⟨hc.1, hc.2.1⟩
theorem qfTk_ok {σ : QSt} (hT : ∀ i, i < σ 0 2 → qWF (qfTa (qfTk σ i) i)) : ∀ i, i ≤ σ 0 2 → (∀ j, j ≠ 3 → qfTk σ i 0 j = σ 0 j) ∧ σ 0 3 ≤ qfTk σ i 0 3 ∧ σ 32 3 ≤ qfTk σ i 32 3
  | 0, _ => ⟨fun _ _ => rfl, Nat.le_refl _, Nat.le_refl _⟩
  | i + 1, hi => by
    obtain ⟨g1, g2, g3⟩ := qfTk_ok hT i (by omega)
    have hc := qfTk_step (hT i (by omega))
    refine ⟨fun j hj => ?_, Nat.le_trans g2 hc.1, Nat.le_trans g3 hc.2⟩
    show qLook (qfTa (qfTk σ i) i) i 0 j = σ 0 j
    rw [qLook_0 hj, qfTa_lo (by decide), g1 j hj]
theorem qfTk_mono {σ : QSt} (hT : ∀ i, i < σ 0 2 → qWF (qfTa (qfTk σ i) i)) (i : Nat) : ∀ d, i + d ≤ σ 0 2 → qfTk σ i 0 3 ≤ qfTk σ (i + d) 0 3 ∧ qfTk σ i 32 3 ≤ qfTk σ (i + d) 32 3
  | 0, _ => ⟨Nat.le_refl _, Nat.le_refl _⟩
  | d + 1, h => by
    have h1 := qfTk_mono hT i d (by omega)
    have h2 := qfTk_step (hT (i + d) (by omega))
    exact ⟨Nat.le_trans h1.1 h2.1, Nat.le_trans h1.2 h2.2⟩
/-- what a turn of a tick asks -/
def qTo (σ : QSt) (a : Nat) : Prop := qWF σ ∧ (∀ i j, i ≤ j → j < σ 0 0 → σ 67 i ≤ σ 67 j) ∧ qfrom (qlv σ a) 0 (σ 0 0) ≤ σ 132 a ∧ (∀ l0, l0 < σ 0 0 → qlv σ a l0 → 1 ≤ σ 70 l0) ∧ qWF (qfFl σ a) ∧ (qfFl σ a 131 a = 104 → 1 ≤ qfFl σ a 133 a) ∧ qOk (qfTa σ a) a

set_option maxHeartbeats 4000000 in
set_option maxRecDepth 100000 in
theorem m_passOneTick (l : Launch) (G : QG) (es : Nat) (A : Nat → Prop) (σ ad : QSt) (hF : qWF σ) (hnow : σ 1 0 + 1 < 1073741824) (hT : ∀ i, i < σ 0 2 → qTo (qfTk σ i) i) (hTn : qWF (qfTk σ (σ 0 2))) : Met l yX7_passOneTick wsX7_passOneTick ({ frames := 8, cells := (3 * ((qfTk σ (σ 0 2)) 0 3 - σ 0 3)), slots := (10 * ((qfTk σ (σ 0 2)) 0 3 - σ 0 3) + 3 * ((qfTk σ (σ 0 2)) 32 3 - σ 32 3)), locals := 192 } : Room) (qW G es A σ ad [.ref (ad 0 0)]) (qWV (some (.int (nI (qfAs (qfTk σ (σ 0 2)) 4).2))) (fun H1 => ∃ ad', qAE σ ad ad' ∧ qLW G es A (qfAr (qfAs (qfTk σ (σ 0 2)) 4).1) ad' H1) A) (3 * ((qfTk σ (σ 0 2)) 0 3 - σ 0 3)) (10 * ((qfTk σ (σ 0 2)) 0 3 - σ 0 3) + 3 * ((qfTk σ (σ 0 2)) 32 3 - σ 32 3)) A := by
  refine Met.ofW (cc := cX7_passOneTick) (maxL := 3) (ret := (some .int)) (by decide) rfl ?_
  intro p e s m args below meth c s₁ B hml hv
  obtain ⟨rfl, hC, hW, hZ, hA⟩ := hv
  have hx := B.exec
  have hb := B.bytes
  have hr := B.returns
  have hts := atoms_spec (ws := wsX7_passOneTick) B.pre
  have hown : s.vm.findClass RX7 = some m.cls := findClass_of_methodNamed B.named
  have hlocks := B.notSynchronized
  have hB := hF.1
  have hn := hF.n
  have hS : va_S A s.heap s.heap [] := va_S.rf
  have hl := lv_entry ([.ref (ad 0 0)]) (n := 3) (Nat.le_of_ble_eq_true rfl)
  rw [lg_entry_eq]
  generalize (lg_sl ([.ref (ad 0 0)]) ++ List.replicate (3 - (lg_sl ([.ref (ad 0 0)])).length) Slot.unset).toArray = ls at hl ⊢
  have hl : lv_has ls 3 [(0, .ref (ad 0 0))] := hl
  have iRX7 : ∀ w ∈ wsX70, w ∈ wsX7_passOneTick := by decide +kernel
  have hT1 := fun i hi => (hT i hi).2.2.2.2.2.2.1
  have hOK := fun i hi => qfTk_ok hT1 i hi
  refine lv_aload_n hx hb dX7_passOneTick_0 rfl (lv_at hl 0 rfl) ?_
  refine lv_dup hx hb dX7_passOneTick_1 rfl ?_
  refine q_get (C := RX7) (T := TX7) (N := 7) hx hb hts iRX7 hown hC.1 (hW.to qLV0) rfl 6 (by decide) (hts (.fieldLink RX7 76 "LogWeave" "now" "I") (List.mem_of_getElem? (i := 1) (by decide +kernel))) rfl (v := .int (nI (σ 1 0))) rfl dX7_passOneTick_2 ?_
  refine lv_iconst (v := nI 1) hx hb dX7_passOneTick_5 (by decide) ?_
  refine lv_iadd hx hb dX7_passOneTick_6 ?_
  refine q_ti (nI_add (σ 1 0) 1) ?_
  refine q_put (C := RX7) (T := TX7) (N := 7) (ty := .int) (v := .int (nI (σ 1 0 + 1))) hx hb hts iRX7 tyX7 tyX7_ok nmX7 hown hC.1 (hW.to qLV0) (hW.in qLV0) hS rfl 6 (by decide) (hts (.fieldLink RX7 76 "LogWeave" "now" "I") (List.mem_of_getElem? (i := 1) (by decide +kernel))) rfl rfl (by decide +kernel) rfl rfl (Nat.le_of_ble_eq_true rfl) dX7_passOneTick_7 (fun H locs hat hsz hoq hS => ?_)
  have hW : qLW G es A (qfNow σ) ad H := hW.upNow (σ 1 0 + 1) ((qLV0 (G := G) (es := es) (σ := qup σ 1 0 (σ 1 0 + 1)) (ad := ad)).trans (by rw [qup_s]; rfl)) hat hoq
  refine lv_iconst (v := nI 0) hx hb dX7_passOneTick_10 (by decide) ?_
  refine lv_istore_n (lv' := [(1, .int (nI 0)), (0, .ref (ad 0 0))]) hx hb dX7_passOneTick_11 rfl hl (by decide) rfl (fun ls hl => ?_)
  refine W.widen (k := 3 * ((qfTk σ 0) 0 3 - σ 0 3)) (n := (10 * ((qfTk σ 0) 0 3 - σ 0 3) + 3 * ((qfTk σ 0) 32 3 - σ 32 3))) (Nat.zero_le _) (Nat.zero_le _) ?_
  refine q_upF (σ 0 2) (fun k => 3 * ((qfTk σ k) 0 3 - σ 0 3)) (fun k => (10 * ((qfTk σ k) 0 3 - σ 0 3) + 3 * ((qfTk σ k) 32 3 - σ 32 3))) (fun k H locs ls => ∃ ad2 : QSt, qAE σ ad ad2 ∧ qLW G es A (qfTk σ k) ad2 H ∧ va_S A s.heap H locs ∧ lv_has ls 3 [(0, .ref (ad2 0 0)), (1, .int (nI k))]) ?_ ?_ (i0 := 0) (Nat.zero_le _) ⟨ad, qAE.rf, hW, hS, lv_sub hl [1, 0] rfl⟩
  · rintro H locs ls ⟨ad, hAE, hW, hS, hl⟩
    have hok := hOK (σ 0 2) (Nat.le_refl _)
    have h02 : (qfTk σ (σ 0 2)) 0 2 = σ 0 2 := hok.1 2 (by decide)
    have h00 : (qfTk σ (σ 0 2)) 0 0 = σ 0 0 := hok.1 0 (by decide)
    have hF9 := hTn
    refine lv_iload_n hx hb dX7_passOneTick_12 rfl (lv_at hl 1 rfl) ?_
    refine lv_aload_n hx hb dX7_passOneTick_13 rfl (lv_at hl 0 rfl) ?_
    refine q_get (C := RX7) (T := TX7) (N := 7) hx hb hts iRX7 hown hC.1 (hW.to qLV0) rfl 2 (by decide) (hts (.fieldLink RX7 19 "LogWeave" "alertList" "Ljava/util/ArrayList;") (List.mem_of_getElem? (i := 2) (by decide +kernel))) rfl (v := .ref (ad 1 2)) rfl dX7_passOneTick_14 ?_
    refine q_v (va_runV (As := []) (rest := [.int (nI (σ 0 2))]) ⟨hx, hb, hml, hown, hts⟩ (m_size l G (ad 1 2) _ _ (nI ((qfTk σ (σ 0 2)) 0 2))) (cwV 0 hts gX7_passOneTick_Jx4a65c_size_8abf5 rfl rfl rfl (by decide +kernel) ⟨Nat.le_of_ble_eq_true rfl, Nat.le_of_ble_eq_true rfl⟩) ⟨qO.blind, qrecv hC (hW.to (qLV1 (j := 2) (by decide))) rfl, qO.pre hC (hW.lob (by decide))⟩ rfl rfl hl.1 rfl (lv_room (Nat.le_of_ble_eq_true rfl)) dX7_passOneTick_17 ⟨by show 3 * ((qfTk σ (σ 0 2)) 0 3 - σ 0 3) + 0 ≤ 3 * ((qfTk σ (σ 0 2)) 0 3 - σ 0 3); omega, by show (10 * ((qfTk σ (σ 0 2)) 0 3 - σ 0 3) + 3 * ((qfTk σ (σ 0 2)) 32 3 - σ 32 3)) + 0 ≤ (10 * ((qfTk σ (σ 0 2)) 0 3 - σ 0 3) + 3 * ((qfTk σ (σ 0 2)) 32 3 - σ 32 3)); omega⟩) hS (fun _ h => h.elim) (fun locs hS => ?_)
    refine q_ti (y := nI (σ 0 2)) (by rw [h02]) ?_
    refine q_ge (tgt := 55) hx hb (q31 (hB _ _)) (q31 (hB _ _)) dX7_passOneTick_20 (by decide) (fun g1 => ?_) (fun g1 => (by omega))
    refine lv_aload_n hx hb dX7_passOneTick_55 rfl (lv_at hl 0 rfl) ?_
    refine q_wv (va_runV (As := []) (rest := []) ⟨hx, hb, hml, hown, hts⟩ (m_lookAtAllSources l G es A (qfTk σ (σ 0 2)) ad hF9) (cwV 0 hts gX7_passOneTick_X7_lookAtAllSources rfl rfl rfl (by decide +kernel) ⟨Nat.le_of_ble_eq_true rfl, Nat.le_of_ble_eq_true rfl⟩) ⟨qW.blind, qrecv hC (hW.to qLV0) rfl, qW.pre hC hW hZ hS (fun _ h => h) (fun q h => hA q (Nat.le_trans hS.1 h))⟩ rfl rfl hl.1 rfl (lv_room (Nat.le_of_ble_eq_true rfl)) dX7_passOneTick_56 ⟨by show 3 * ((qfTk σ (σ 0 2)) 0 3 - σ 0 3) + 0 ≤ 3 * ((qfTk σ (σ 0 2)) 0 3 - σ 0 3); omega, by show (10 * ((qfTk σ (σ 0 2)) 0 3 - σ 0 3) + 3 * ((qfTk σ (σ 0 2)) 32 3 - σ 32 3)) + 0 ≤ (10 * ((qfTk σ (σ 0 2)) 0 3 - σ 0 3) + 3 * ((qfTk σ (σ 0 2)) 32 3 - σ 32 3)); omega⟩) hS (fun _ h => h) (fun _ h => h) (fun H locs hW hz hk hS => ?_)
    have hFa := (qfAs_ok hF9 4).1
    refine lv_istore_n (lv' := [(1, .int (nI ((qfAs (qfTk σ (σ 0 2)) 4).2))), (0, .ref (ad 0 0))]) hx hb dX7_passOneTick_59 rfl hl (by decide) rfl (fun ls hl => ?_)
    refine lv_aload_n hx hb dX7_passOneTick_60 rfl (lv_at hl 1 rfl) ?_
    refine q_wn (va_runV (As := []) (rest := []) ⟨hx, hb, hml, hown, hts⟩ (m_answerRequests l G es A (qfAs (qfTk σ (σ 0 2)) 4).1 ad hFa) (cwV 0 hts gX7_passOneTick_X7_answerRequests rfl rfl rfl (by decide +kernel) ⟨Nat.le_of_ble_eq_true rfl, Nat.le_of_ble_eq_true rfl⟩) ⟨qW.blind, qrecv hC (hW.to qLV0) rfl, qW.pre hC hW hZ hS (fun _ h => h) (fun q h => hA q (Nat.le_trans hS.1 h))⟩ rfl rfl hl.1 rfl (lv_room (Nat.le_of_ble_eq_true rfl)) dX7_passOneTick_61 ⟨by show 3 * ((qfTk σ (σ 0 2)) 0 3 - σ 0 3) + 0 + 0 ≤ 3 * ((qfTk σ (σ 0 2)) 0 3 - σ 0 3); omega, by show (10 * ((qfTk σ (σ 0 2)) 0 3 - σ 0 3) + 3 * ((qfTk σ (σ 0 2)) 32 3 - σ 32 3)) + 0 + 0 ≤ (10 * ((qfTk σ (σ 0 2)) 0 3 - σ 0 3) + 3 * ((qfTk σ (σ 0 2)) 32 3 - σ 32 3)); omega⟩) hS (fun _ h => h) (fun _ h => h) (fun H locs hW hz hk hS => ?_)
    refine lv_iload_n hx hb dX7_passOneTick_64 rfl (lv_at hl 0 rfl) ?_
    exact W.iret hx hb hr (fun t ht _ => ⟨rfl, by rw [ht]; exact ⟨ad, hAE, hW⟩, hS.F ht⟩) hS.2.2 dX7_passOneTick_65
  · rintro k H locs ls hi ⟨ad, hAE, hW, hS, hl⟩ ih
    obtain ⟨hFk, hmk, hck, hgk, hFf, hsk, hOk⟩ := hT k hi
    have hok := hOK k (Nat.le_of_lt hi)
    have h02 : (qfTk σ k) 0 2 = σ 0 2 := hok.1 2 (by decide)
    have h00 : (qfTk σ k) 0 0 = σ 0 0 := hok.1 0 (by decide)
    have hF9 := hFk
    have hmo := qfTk_mono hT1 k (σ 0 2 - k) (by omega)
    rw [show k + (σ 0 2 - k) = σ 0 2 by omega] at hmo
    have hm1 := qfTk_mono hT1 (k + 1) (σ 0 2 - (k + 1)) (by omega)
    rw [show k + 1 + (σ 0 2 - (k + 1)) = σ 0 2 by omega] at hm1
    have hk9 : k < (qfTk σ k) 0 2 := by rw [h02]; exact hi
    obtain ⟨hFT, hkT, hmT, hgT, haT, hnT, h6T⟩ := hOk
    have t03 : (qfTa (qfTk σ k) k) 0 3 = (qfTk σ k) 0 3 := qfTa_lo (by decide)
    have t323 : (qfTa (qfTk σ k) k) 32 3 = (qfTk σ k) 32 3 := qfTa_lo (by decide)
    have hkF : k < (qfFl (qfTk σ k) k) 0 2 := by unfold qfFl; rw [qfFlS_r _ _ _ _ (by decide) (by decide)]; exact hk9
    have hcst := (qLook_cost hFT k)
    rw [t03, t323] at hcst
    have hs1 : qLook (qfTa (qfTk σ k) k) k 0 3 = (qfTk σ (k + 1)) 0 3 := rfl
    have hs2 : qLook (qfTa (qfTk σ k) k) k 32 3 = (qfTk σ (k + 1)) 32 3 := rfl
    rw [hs1, hs2] at hcst
    have hct : ∀ J, σ 0 J ≤ (qfTa (qfTk σ k) k) 0 J := fun J => by rw [qfTa_lo (by decide)]; by_cases q : J = 3; rw [q]; exact hok.2.1; rw [hok.1 J q]; exact Nat.le_refl _
    refine lv_iload_n hx hb dX7_passOneTick_12 rfl (lv_at hl 1 rfl) ?_
    refine lv_aload_n hx hb dX7_passOneTick_13 rfl (lv_at hl 0 rfl) ?_
    refine q_get (C := RX7) (T := TX7) (N := 7) hx hb hts iRX7 hown hC.1 (hW.to qLV0) rfl 2 (by decide) (hts (.fieldLink RX7 19 "LogWeave" "alertList" "Ljava/util/ArrayList;") (List.mem_of_getElem? (i := 2) (by decide +kernel))) rfl (v := .ref (ad 1 2)) rfl dX7_passOneTick_14 ?_
    refine q_v (va_runV (As := []) (rest := [.int (nI k)]) ⟨hx, hb, hml, hown, hts⟩ (m_size l G (ad 1 2) _ _ (nI ((qfTk σ k) 0 2))) (cwV 0 hts gX7_passOneTick_Jx4a65c_size_8abf5 rfl rfl rfl (by decide +kernel) ⟨Nat.le_of_ble_eq_true rfl, Nat.le_of_ble_eq_true rfl⟩) ⟨qO.blind, qrecv hC (hW.to (qLV1 (j := 2) (by decide))) rfl, qO.pre hC (hW.lob (by decide))⟩ rfl rfl hl.1 rfl (lv_room (Nat.le_of_ble_eq_true rfl)) dX7_passOneTick_17 ⟨by show 3 * ((qfTk σ k) 0 3 - σ 0 3) + 0 ≤ 3 * ((qfTk σ (σ 0 2)) 0 3 - σ 0 3); omega, by show (10 * ((qfTk σ k) 0 3 - σ 0 3) + 3 * ((qfTk σ k) 32 3 - σ 32 3)) + 0 ≤ (10 * ((qfTk σ (σ 0 2)) 0 3 - σ 0 3) + 3 * ((qfTk σ (σ 0 2)) 32 3 - σ 32 3)); omega⟩) hS (fun _ h => h.elim) (fun locs hS => ?_)
    refine q_ti (y := nI (σ 0 2)) (by rw [h02]) ?_
    refine q_ge (tgt := 55) hx hb (by omega) (q31 (hB _ _)) dX7_passOneTick_20 (by decide) (fun g2 => (by omega)) (fun g2 => ?_)
    refine lv_aload_n hx hb dX7_passOneTick_23 rfl (lv_at hl 0 rfl) ?_
    refine q_get (C := RX7) (T := TX7) (N := 7) hx hb hts iRX7 hown hC.1 (hW.to qLV0) rfl 2 (by decide) (hts (.fieldLink RX7 19 "LogWeave" "alertList" "Ljava/util/ArrayList;") (List.mem_of_getElem? (i := 2) (by decide +kernel))) rfl (v := .ref (ad 1 2)) rfl dX7_passOneTick_24 ?_
    refine lv_iload_n hx hb dX7_passOneTick_27 rfl (lv_at hl 1 rfl) ?_
    refine q_v (va_runV (As := [.int (nI k)]) (rest := []) ⟨hx, hb, hml, hown, hts⟩ (m_get l G (ad 1 2) (ad 2 2) ((qfTk σ k) 32 2) ((qfTk σ k) 0 2) (fun i => if i < (qfTk σ k) 0 2 then some (ad (4 + 2 * 2) i) else none) (.int (nI ((qfTk σ k) 16 2))) k (ad 8 k) hk9 (hF9.c 2) (hF9.1 _ _) (if_pos hk9)) (cwV 1 hts gX7_passOneTick_Jx4a65c_get_915e3 rfl rfl rfl (by decide +kernel) ⟨Nat.le_of_ble_eq_true rfl, Nat.le_of_ble_eq_true rfl⟩) ⟨qO.blind, qrecv hC (hW.to (qLV1 (j := 2) (by decide))) rfl, qO.pre hC (hW.list hF9 (J := 2) (by decide) hk9)⟩ rfl rfl hl.1 rfl (lv_room (Nat.le_of_ble_eq_true rfl)) dX7_passOneTick_28 ⟨by show 3 * ((qfTk σ k) 0 3 - σ 0 3) + 0 ≤ 3 * ((qfTk σ (σ 0 2)) 0 3 - σ 0 3); omega, by show (10 * ((qfTk σ k) 0 3 - σ 0 3) + 3 * ((qfTk σ k) 32 3 - σ 32 3)) + 0 ≤ (10 * ((qfTk σ (σ 0 2)) 0 3 - σ 0 3) + 3 * ((qfTk σ (σ 0 2)) 32 3 - σ 32 3)); omega⟩) hS (fun _ h => h.elim) (fun locs hS => ?_)
    refine va_castS hx hb hown (hts (.classLink RX7 195 "LogWeave$Alert") (List.mem_of_getElem? (i := 3) (by decide +kernel))) (hC.1.1 3 _ rfl).2 (qrecv hC (hW.to (qLV8 hk9)) rfl) dX7_passOneTick_31 ?_
    refine lv_astore_n (lv' := [(2, .ref (ad 8 k)), (0, .ref (ad 0 0)), (1, .int (nI k))]) hx hb dX7_passOneTick_34 rfl hl (by decide) rfl (fun ls hl => ?_)
    refine lv_aload_n hx hb dX7_passOneTick_35 rfl (lv_at hl 1 rfl) ?_
    refine lv_aload_n hx hb dX7_passOneTick_36 rfl (lv_at hl 0 rfl) ?_
    refine q_wn (va_runV (As := [.ref (ad 8 k)]) (rest := []) ⟨hx, hb, hml, hown, hts⟩ (m_forgetLeavers l G es A (qfTk σ k) ad hF9 k hk9 hmk hck hgk) (cwV 1 hts gX7_passOneTick_X7_forgetLeavers rfl rfl rfl (by decide +kernel) ⟨Nat.le_of_ble_eq_true rfl, Nat.le_of_ble_eq_true rfl⟩) ⟨qW.blind, qrecv hC (hW.to qLV0) rfl, qW.pre hC hW hZ hS (fun _ h => h) (fun q h => hA q (Nat.le_trans hS.1 h))⟩ rfl rfl hl.1 rfl (lv_room (Nat.le_of_ble_eq_true rfl)) dX7_passOneTick_37 ⟨by show 3 * ((qfTk σ k) 0 3 - σ 0 3) + 0 ≤ 3 * ((qfTk σ (σ 0 2)) 0 3 - σ 0 3); omega, by show (10 * ((qfTk σ k) 0 3 - σ 0 3) + 3 * ((qfTk σ k) 32 3 - σ 32 3)) + 0 ≤ (10 * ((qfTk σ (σ 0 2)) 0 3 - σ 0 3) + 3 * ((qfTk σ (σ 0 2)) 32 3 - σ 32 3)); omega⟩) hS (fun _ h => h) (fun _ h => h) (fun H locs hW hz hk hS => ?_)
    refine lv_aload_n hx hb dX7_passOneTick_40 rfl (lv_at hl 0 rfl) ?_
    refine q_wn (va_runVN (C := RX0) (As := []) (rest := []) ⟨hx, hb, hml, hown, hts⟩ (m_shortenHold l G es A (qfFl (qfTk σ k) k) ad hFf k hkF hsk) ⟨va_cnB 0 hts gX7_passOneTick_X0_shortenHold_n380 rfl rfl rfl (qm_RX7_380 hC) (hts (.initialized RX0) (List.mem_of_getElem? (i := 50) (by decide +kernel))) (by decide +kernel) ⟨Nat.le_of_ble_eq_true rfl, Nat.le_of_ble_eq_true rfl⟩, (hts (.instanceMethod yX0_shortenHold) (List.mem_of_getElem? (i := 49) (by decide +kernel))), (hts (.selects RX0 yX0_shortenHold yX0_shortenHold) (List.mem_of_getElem? (i := 51) (by decide +kernel)))⟩ ⟨qW.blind, qrecv hC (hW.to (qLV8 hkF)) rfl, qW.pre hC hW hZ hS (fun _ h => h) (fun q h => hA q (Nat.le_trans hS.1 h))⟩ rfl rfl hl.1 rfl (lv_room (Nat.le_of_ble_eq_true rfl)) dX7_passOneTick_41 ⟨by show 3 * ((qfTk σ k) 0 3 - σ 0 3) + 0 + 0 ≤ 3 * ((qfTk σ (σ 0 2)) 0 3 - σ 0 3); omega, by show (10 * ((qfTk σ k) 0 3 - σ 0 3) + 3 * ((qfTk σ k) 32 3 - σ 32 3)) + 0 + 0 ≤ (10 * ((qfTk σ (σ 0 2)) 0 3 - σ 0 3) + 3 * ((qfTk σ (σ 0 2)) 32 3 - σ 32 3)); omega⟩) hS (fun _ h => h) (fun _ h => h) (fun H locs hW hz hk hS => ?_)
    refine lv_aload_n hx hb dX7_passOneTick_44 rfl (lv_at hl 1 rfl) ?_
    refine lv_aload_n hx hb dX7_passOneTick_45 rfl (lv_at hl 0 rfl) ?_
    by_cases hq : qNew (qfTa (qfTk σ k) k) k
    · skip
      have hcq := hcst.2.2 hq
      refine q_wn (va_runV (As := [.ref (ad 8 k)]) (rest := []) ⟨hx, hb, hml, hown, hts⟩ (m_lookAtAlertF l G es A (qfTa (qfTk σ k) k) ad hFT k hkT hq.1 hq.2 hnT h6T hmT hgT (qgc (qfTa (qfTk σ k) k)) (qgc_ok _)) (cwV 1 hts gX7_passOneTick_X7_lookAtAlert rfl rfl rfl (by decide +kernel) ⟨Nat.le_of_ble_eq_true rfl, Nat.le_of_ble_eq_true rfl⟩) ⟨qW.blind, qrecv hC (hW.to qLV0) rfl, qW.pre hC hW hZ hS (fun _ h => h) (fun q h => hA q (Nat.le_trans hS.1 h))⟩ rfl rfl hl.1 rfl (lv_room (Nat.le_of_ble_eq_true rfl)) dX7_passOneTick_46 ⟨by show 3 * ((qfTk σ k) 0 3 - σ 0 3) + 0 + 0 + 3 ≤ 3 * ((qfTk σ (σ 0 2)) 0 3 - σ 0 3); omega, by show (10 * ((qfTk σ k) 0 3 - σ 0 3) + 3 * ((qfTk σ k) 32 3 - σ 32 3)) + 0 + 0 + (9 + qgc (qfTa (qfTk σ k) k)) ≤ (10 * ((qfTk σ (σ 0 2)) 0 3 - σ 0 3) + 3 * ((qfTk σ (σ 0 2)) 32 3 - σ 32 3)); omega⟩) hS (fun _ h => h) (fun _ h => h) (fun H locs hW hz hk hS => ?_)
      obtain ⟨ad3, hAE3, hW⟩ := hW
      refine lv_iinc (v := nI (k + 1)) (lv' := [(1, .int (nI (k + 1))), (2, .ref (ad 8 k)), (0, .ref (ad 0 0))]) hx hb dX7_passOneTick_49 hl (k := 2) rfl (nI_1 k) (by decide) rfl (fun ls hl => ?_)
      refine lv_goto (tgt := 12) hx hb dX7_passOneTick_52 (by decide) ?_
      refine W.widen (k := 3 * ((qfTk σ (k + 1)) 0 3 - σ 0 3)) (n := (10 * ((qfTk σ (k + 1)) 0 3 - σ 0 3) + 3 * ((qfTk σ (k + 1)) 32 3 - σ 32 3))) (by show 3 * ((qfTk σ k) 0 3 - σ 0 3) + 0 + 0 + 3 ≤ _; omega) (by show (10 * ((qfTk σ k) 0 3 - σ 0 3) + 3 * ((qfTk σ k) 32 3 - σ 32 3)) + 0 + 0 + (9 + qgc (qfTa (qfTk σ k) k)) ≤ _; omega) ?_
      exact ih _ _ ls ⟨ad3, hAE.trans hAE3 hct, (by rw [show (qfTk σ (k + 1)) = qfLn (qfTa (qfTk σ k) k) k from qLook_t hq]; exact hW), hS, (by rw [hAE3 0 0 (by decide) (by omega)]; exact lv_sub hl [2, 0] rfl)⟩
    · skip
      refine q_wn (va_runV (As := [.ref (ad 8 k)]) (rest := []) ⟨hx, hb, hml, hown, hts⟩ (m_lookAtAlertN l G es A (qfTa (qfTk σ k) k) ad hFT k hkT (fun h => ⟨fun z => hq ⟨h, Or.inl z⟩, fun z => hq ⟨h, Or.inr z⟩⟩) (fun z => (haT z).1) hmT (fun z => (haT z).2) hgT) (cwV 1 hts gX7_passOneTick_X7_lookAtAlert rfl rfl rfl (by decide +kernel) ⟨Nat.le_of_ble_eq_true rfl, Nat.le_of_ble_eq_true rfl⟩) ⟨qW.blind, qrecv hC (hW.to qLV0) rfl, qW.pre hC hW hZ hS (fun _ h => h) (fun q h => hA q (Nat.le_trans hS.1 h))⟩ rfl rfl hl.1 rfl (lv_room (Nat.le_of_ble_eq_true rfl)) dX7_passOneTick_46 ⟨by show 3 * ((qfTk σ k) 0 3 - σ 0 3) + 0 + 0 + 0 ≤ 3 * ((qfTk σ (σ 0 2)) 0 3 - σ 0 3); omega, by show (10 * ((qfTk σ k) 0 3 - σ 0 3) + 3 * ((qfTk σ k) 32 3 - σ 32 3)) + 0 + 0 + 0 ≤ (10 * ((qfTk σ (σ 0 2)) 0 3 - σ 0 3) + 3 * ((qfTk σ (σ 0 2)) 32 3 - σ 32 3)); omega⟩) hS (fun _ h => h) (fun _ h => h) (fun H locs hW hz hk hS => ?_)
      refine lv_iinc (v := nI (k + 1)) (lv' := [(1, .int (nI (k + 1))), (2, .ref (ad 8 k)), (0, .ref (ad 0 0))]) hx hb dX7_passOneTick_49 hl (k := 2) rfl (nI_1 k) (by decide) rfl (fun ls hl => ?_)
      refine lv_goto (tgt := 12) hx hb dX7_passOneTick_52 (by decide) ?_
      refine W.widen (k := 3 * ((qfTk σ (k + 1)) 0 3 - σ 0 3)) (n := (10 * ((qfTk σ (k + 1)) 0 3 - σ 0 3) + 3 * ((qfTk σ (k + 1)) 32 3 - σ 32 3))) (by show 3 * ((qfTk σ k) 0 3 - σ 0 3) + 0 + 0 + 0 ≤ _; omega) (by show (10 * ((qfTk σ k) 0 3 - σ 0 3) + 3 * ((qfTk σ k) 32 3 - σ 32 3)) + 0 + 0 + 0 ≤ _; omega) ?_
      exact ih _ _ ls ⟨ad, hAE, (by rw [show (qfTk σ (k + 1)) = qfLk (qfTa (qfTk σ k) k) k from qLook_f hq]; exact hW), hS, lv_sub hl [2, 0] rfl⟩
