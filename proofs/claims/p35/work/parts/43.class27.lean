/-! ticks pass -/
def qfP1 (τ : QSt) : QSt := qfAr (qfAs (qfTk τ (τ 0 2)) 4).1
def qfPs (σ : QSt) : Nat → QSt × Nat
  | 0 => (σ, 0)
  | i + 1 => (qfP1 (qfPs σ i).1, (qfPs σ i).2 + (qfAs (qfTk (qfPs σ i).1 ((qfPs σ i).1 0 2)) 4).2)
def qTick (τ : QSt) : Prop := qWF τ ∧ τ 1 0 + 1 < 1073741824 ∧ (∀ a, a < τ 0 2 → qTo (qfTk τ a) a) ∧ qWF (qfTk τ (τ 0 2))
theorem qfP1_lo {τ : QSt} (h : qTick τ) {r j : Nat} (hr : r < 64) : qfP1 τ r j = qfTk τ (τ 0 2) r j := by
  unfold qfP1 qfAr
  rw [qfArS_r _ _ _ (by omega) (by omega), (qfAs_ok h.2.2.2 4).2.1 r j (by omega)]
theorem qfP1_ok {τ : QSt} (h : qTick τ) : (∀ j, j ≠ 3 → qfP1 τ 0 j = τ 0 j) ∧ τ 0 3 ≤ qfP1 τ 0 3 ∧ τ 32 3 ≤ qfP1 τ 32 3 := by
  have g := qfTk_ok (σ := τ) (fun i hi => (h.2.2.1 i hi).2.2.2.2.2.2.1) (τ 0 2) (Nat.le_refl _)
  rw [qfP1_lo h (r := 0) (j := 3) (by decide), qfP1_lo h (r := 32) (j := 3) (by decide)]
  exact ⟨fun j hj => (qfP1_lo h (by decide)).trans (g.1 j hj), g.2.1, g.2.2⟩
theorem qfPs_ok {σ : QSt} {n : Nat} (hT : ∀ i, i < n → qTick (qfPs σ i).1) : ∀ i, i ≤ n → (∀ j, j ≠ 3 → (qfPs σ i).1 0 j = σ 0 j) ∧ σ 0 3 ≤ (qfPs σ i).1 0 3 ∧ σ 32 3 ≤ (qfPs σ i).1 32 3
  | 0, _ => ⟨fun _ _ => rfl, Nat.le_refl _, Nat.le_refl _⟩
  | i + 1, hi => by
    obtain ⟨g1, g2, g3⟩ := qfPs_ok hT i (by omega)
    have hc := qfP1_ok (hT i (by omega))
    exact ⟨fun j hj => (hc.1 j hj).trans (g1 j hj), Nat.le_trans g2 hc.2.1, Nat.le_trans g3 hc.2.2⟩
theorem qfPs_mono {σ : QSt} {n : Nat} (hT : ∀ i, i < n → qTick (qfPs σ i).1) (i : Nat) : ∀ d, i + d ≤ n → (qfPs σ i).1 0 3 ≤ (qfPs σ (i + d)).1 0 3 ∧ (qfPs σ i).1 32 3 ≤ (qfPs σ (i + d)).1 32 3
  | 0, _ => ⟨Nat.le_refl _, Nat.le_refl _⟩
  | d + 1, h => by
    have h1 := qfPs_mono hT i d (by omega)
    have h2 := qfP1_ok (hT (i + d) (by omega))
    exact ⟨Nat.le_trans h1.1 h2.2.1, Nat.le_trans h1.2 h2.2.2⟩

set_option maxHeartbeats 4000000 in
set_option maxRecDepth 100000 in
theorem m_pass (l : Launch) (G : QG) (es : Nat) (A : Nat → Prop) (σ ad : QSt) (hF : qWF σ) (n0 : Nat) (hn0 : 1 ≤ n0 ∧ n0 ≤ 50) (hnow : σ 1 0 + n0 ≤ 5000) (hT : ∀ i, i < n0 → qTick (qfPs σ i).1) : Met l yX7_pass wsX7_pass ({ frames := 9, cells := (3 * ((qfPs σ n0).1 0 3 - σ 0 3)), slots := (10 * ((qfPs σ n0).1 0 3 - σ 0 3) + 3 * ((qfPs σ n0).1 32 3 - σ 32 3)), locals := 214 } : Room) (qW G es A σ ad [.ref (ad 0 0), .int (nI n0)]) (qWV (some (.int (nI (qfPs σ n0).2))) (fun H1 => ∃ ad', qAE σ ad ad' ∧ qLW G es A (qfPs σ n0).1 ad' H1) A) (3 * ((qfPs σ n0).1 0 3 - σ 0 3)) (10 * ((qfPs σ n0).1 0 3 - σ 0 3) + 3 * ((qfPs σ n0).1 32 3 - σ 32 3)) A := by
  refine Met.ofW (cc := cX7_pass) (maxL := 4) (ret := (some .int)) (by decide) rfl ?_
  intro p e s m args below meth c s₁ B hml hv
  obtain ⟨rfl, hC, hW, hZ, hA⟩ := hv
  have hx := B.exec
  have hb := B.bytes
  have hr := B.returns
  have hts := atoms_spec (ws := wsX7_pass) B.pre
  have hown : s.vm.findClass RX7 = some m.cls := findClass_of_methodNamed B.named
  have hlocks := B.notSynchronized
  have hB := hF.1
  have hn := hF.n
  have hS : va_S A s.heap s.heap [] := va_S.rf
  have hl := lv_entry ([.ref (ad 0 0), .int (nI n0)]) (n := 4) (Nat.le_of_ble_eq_true rfl)
  rw [lg_entry_eq]
  generalize (lg_sl ([.ref (ad 0 0), .int (nI n0)]) ++ List.replicate (4 - (lg_sl ([.ref (ad 0 0), .int (nI n0)])).length) Slot.unset).toArray = ls at hl ⊢
  have hl : lv_has ls 4 [(0, .ref (ad 0 0)), (1, .int (nI n0))] := hl
  have iRX7 : ∀ w ∈ wsX70, w ∈ wsX7_pass := by decide +kernel
  have hOK := fun i hi => qfPs_ok hT i hi
  refine lv_iload_n hx hb dX7_pass_0 rfl (lv_at hl 1 rfl) ?_
  refine lv_iconst (v := nI 1) hx hb dX7_pass_1 (by decide) ?_
  refine lv_bipush (v := nI 50) hx hb dX7_pass_2 (by decide) ?_
  refine q_v (va_runS (As := [.int (nI n0), .int (nI 1), .int (nI 50)]) (rest := []) ⟨hx, hb, hml, hown, hts⟩ (m_isWithin l (nI n0) (nI 1) (nI 50)) (va_cwS 3 hts gX7_pass_X7_isWithin rfl rfl rfl (by decide +kernel) ⟨Nat.le_of_ble_eq_true rfl, Nat.le_of_ble_eq_true rfl⟩) ⟨qU.blind, qU.pre⟩ rfl rfl hl.1 rfl (lv_room (Nat.le_of_ble_eq_true rfl)) dX7_pass_4 ⟨Nat.zero_le _, Nat.zero_le _⟩) hS (fun _ h => h.elim) (fun locs hS => ?_)
  refine q_ti (y := nI 1) (by rw [qB_t (⟨nI_le (by omega) (by omega), nI_le (by omega) (by decide)⟩ : nI 1 ≤ nI n0 ∧ nI n0 ≤ nI 50)]) ?_
  refine q_ne0 (tgt := 21) hx hb (by decide) dX7_pass_7 (by decide) (fun c9 => ?_) (fun c9 => absurd c9 (by decide))
  refine lv_aload_n hx hb dX7_pass_21 rfl (lv_at hl 0 rfl) ?_
  refine q_get (C := RX7) (T := TX7) (N := 7) hx hb hts iRX7 hown hC.1 (hW.to qLV0) rfl 6 (by decide) (hts (.fieldLink RX7 76 "LogWeave" "now" "I") (List.mem_of_getElem? (i := 5) (by decide +kernel))) rfl (v := .int (nI (σ 1 0))) rfl dX7_pass_22 ?_
  refine lv_iload_n hx hb dX7_pass_25 rfl (lv_at hl 1 rfl) ?_
  refine lv_iadd hx hb dX7_pass_26 ?_
  refine q_ti (nI_add (σ 1 0) n0) ?_
  refine lv_sipush (v := nI 5000) hx hb dX7_pass_27 (by decide) ?_
  refine q_le (tgt := 44) hx hb (by omega) (by decide) dX7_pass_30 (by decide) (fun c2 => ?_) (fun c2 => (by omega))
  refine lv_iconst (v := nI 0) hx hb dX7_pass_44 (by decide) ?_
  refine lv_istore_n (lv' := [(2, .int (nI 0)), (0, .ref (ad 0 0)), (1, .int (nI n0))]) hx hb dX7_pass_45 rfl hl (by decide) rfl (fun ls hl => ?_)
  refine lv_iconst (v := nI 0) hx hb dX7_pass_46 (by decide) ?_
  refine lv_istore_n (lv' := [(3, .int (nI 0)), (2, .int (nI 0)), (0, .ref (ad 0 0)), (1, .int (nI n0))]) hx hb dX7_pass_47 rfl hl (by decide) rfl (fun ls hl => ?_)
  refine W.widen (k := 3 * ((qfPs σ 0).1 0 3 - σ 0 3)) (n := (10 * ((qfPs σ 0).1 0 3 - σ 0 3) + 3 * ((qfPs σ 0).1 32 3 - σ 32 3))) (Nat.zero_le _) (Nat.zero_le _) ?_
  refine q_upF n0 (fun k => 3 * ((qfPs σ k).1 0 3 - σ 0 3)) (fun k => (10 * ((qfPs σ k).1 0 3 - σ 0 3) + 3 * ((qfPs σ k).1 32 3 - σ 32 3))) (fun k H locs ls => ∃ ad2 : QSt, qAE σ ad ad2 ∧ qLW G es A (qfPs σ k).1 ad2 H ∧ va_S A s.heap H locs ∧ lv_has ls 4 [(0, .ref (ad2 0 0)), (1, .int (nI n0)), (2, .int (nI ((qfPs σ k).2))), (3, .int (nI k))]) ?_ ?_ (i0 := 0) (Nat.zero_le _) ⟨ad, qAE.rf, hW, hS, lv_sub hl [2, 3, 1, 0] rfl⟩
  · rintro H locs ls ⟨ad, hAE, hW, hS, hl⟩
    refine lv_iload_n hx hb dX7_pass_48 rfl (lv_at hl 3 rfl) ?_
    refine lv_iload_n hx hb dX7_pass_49 rfl (lv_at hl 1 rfl) ?_
    refine q_ge (tgt := 66) hx hb (by omega) (by omega) dX7_pass_50 (by decide) (fun g1 => ?_) (fun g1 => (by omega))
    refine lv_iload_n hx hb dX7_pass_66 rfl (lv_at hl 2 rfl) ?_
    exact W.iret hx hb hr (fun t ht _ => ⟨rfl, by rw [ht]; exact ⟨ad, hAE, hW⟩, hS.F ht⟩) hS.2.2 dX7_pass_67
  · rintro k H locs ls hi ⟨ad, hAE, hW, hS, hl⟩ ih
    refine lv_iload_n hx hb dX7_pass_48 rfl (lv_at hl 3 rfl) ?_
    refine lv_iload_n hx hb dX7_pass_49 rfl (lv_at hl 1 rfl) ?_
    have hok := hOK k (Nat.le_of_lt hi)
    obtain ⟨hF9, hnw, hTo, hFn⟩ := hT k hi
    have hp1 := qfP1_ok (hT k hi)
    have hmo := qfPs_mono hT k (n0 - k) (by omega)
    rw [show k + (n0 - k) = n0 by omega] at hmo
    have hm1 := qfPs_mono hT (k + 1) (n0 - (k + 1)) (by omega)
    rw [show k + 1 + (n0 - (k + 1)) = n0 by omega] at hm1
    have e3 : (qfTk (qfPs σ k).1 ((qfPs σ k).1 0 2)) 0 3 = (qfPs σ (k + 1)).1 0 3 := (qfP1_lo (hT k hi) (by decide)).symm
    have e32 : (qfTk (qfPs σ k).1 ((qfPs σ k).1 0 2)) 32 3 = (qfPs σ (k + 1)).1 32 3 := (qfP1_lo (hT k hi) (by decide)).symm
    have hp3 : (qfPs σ k).1 0 3 ≤ (qfPs σ (k + 1)).1 0 3 := hp1.2.1
    have hp32 : (qfPs σ k).1 32 3 ≤ (qfPs σ (k + 1)).1 32 3 := hp1.2.2
    have hct : ∀ J, σ 0 J ≤ (qfPs σ k).1 0 J := fun J => by by_cases q : J = 3; rw [q]; exact hok.2.1; rw [hok.1 J q]; exact Nat.le_refl _
    refine q_ge (tgt := 66) hx hb (by omega) (by omega) dX7_pass_50 (by decide) (fun g2 => (by omega)) (fun g2 => ?_)
    refine lv_iload_n hx hb dX7_pass_53 rfl (lv_at hl 2 rfl) ?_
    refine lv_aload_n hx hb dX7_pass_54 rfl (lv_at hl 0 rfl) ?_
    refine q_wv (va_runV (As := []) (rest := [.int (nI ((qfPs σ k).2))]) ⟨hx, hb, hml, hown, hts⟩ (m_passOneTick l G es A (qfPs σ k).1 ad hF9 hnw hTo hFn) (cwV 0 hts gX7_pass_X7_passOneTick rfl rfl rfl (by decide +kernel) ⟨Nat.le_of_ble_eq_true rfl, Nat.le_of_ble_eq_true rfl⟩) ⟨qW.blind, qrecv hC (hW.to qLV0) rfl, qW.pre hC hW hZ hS (fun _ h => h) (fun q h => hA q (Nat.le_trans hS.1 h))⟩ rfl rfl hl.1 rfl (lv_room (Nat.le_of_ble_eq_true rfl)) dX7_pass_55 ⟨by show 3 * ((qfPs σ k).1 0 3 - σ 0 3) + 3 * ((qfTk (qfPs σ k).1 ((qfPs σ k).1 0 2)) 0 3 - (qfPs σ k).1 0 3) ≤ 3 * ((qfPs σ n0).1 0 3 - σ 0 3); omega, by show (10 * ((qfPs σ k).1 0 3 - σ 0 3) + 3 * ((qfPs σ k).1 32 3 - σ 32 3)) + (10 * ((qfTk (qfPs σ k).1 ((qfPs σ k).1 0 2)) 0 3 - (qfPs σ k).1 0 3) + 3 * ((qfTk (qfPs σ k).1 ((qfPs σ k).1 0 2)) 32 3 - (qfPs σ k).1 32 3)) ≤ (10 * ((qfPs σ n0).1 0 3 - σ 0 3) + 3 * ((qfPs σ n0).1 32 3 - σ 32 3)); omega⟩) hS (fun _ h => h) (fun _ h => h) (fun H locs hW hz hk hS => ?_)
    obtain ⟨ad3, hAE3, hW⟩ := hW
    refine lv_iadd hx hb dX7_pass_58 ?_
    refine q_ti (nI_add ((qfPs σ k).2) ((qfAs (qfTk (qfPs σ k).1 ((qfPs σ k).1 0 2)) 4).2)) ?_
    refine lv_istore_n (lv' := [(2, .int (nI (((qfPs σ k).2) + ((qfAs (qfTk (qfPs σ k).1 ((qfPs σ k).1 0 2)) 4).2)))), (0, .ref (ad 0 0)), (1, .int (nI n0)), (3, .int (nI k))]) hx hb dX7_pass_59 rfl hl (by decide) rfl (fun ls hl => ?_)
    refine lv_iinc (v := nI (k + 1)) (lv' := [(3, .int (nI (k + 1))), (2, .int (nI (((qfPs σ k).2) + ((qfAs (qfTk (qfPs σ k).1 ((qfPs σ k).1 0 2)) 4).2)))), (0, .ref (ad 0 0)), (1, .int (nI n0))]) hx hb dX7_pass_60 hl (k := 3) rfl (nI_1 k) (by decide) rfl (fun ls hl => ?_)
    refine lv_goto (tgt := 48) hx hb dX7_pass_63 (by decide) ?_
    refine W.widen (k := 3 * ((qfPs σ (k + 1)).1 0 3 - σ 0 3)) (n := (10 * ((qfPs σ (k + 1)).1 0 3 - σ 0 3) + 3 * ((qfPs σ (k + 1)).1 32 3 - σ 32 3))) (by show 3 * ((qfPs σ k).1 0 3 - σ 0 3) + 3 * ((qfTk (qfPs σ k).1 ((qfPs σ k).1 0 2)) 0 3 - (qfPs σ k).1 0 3) ≤ _; omega) (by show (10 * ((qfPs σ k).1 0 3 - σ 0 3) + 3 * ((qfPs σ k).1 32 3 - σ 32 3)) + (10 * ((qfTk (qfPs σ k).1 ((qfPs σ k).1 0 2)) 0 3 - (qfPs σ k).1 0 3) + 3 * ((qfTk (qfPs σ k).1 ((qfPs σ k).1 0 2)) 32 3 - (qfPs σ k).1 32 3)) ≤ _; omega) ?_
    exact ih _ _ ls ⟨ad3, hAE.trans hAE3 hct, hW, hS, (by rw [hAE3 0 0 (by decide) (by omega)]; exact lv_sub hl [2, 3, 1, 0] rfl)⟩
