set_option maxHeartbeats 4000000 in
set_option maxRecDepth 100000 in
theorem m_countIfDue (l : Launch) (G : QG) (es : Nat) (A : Nat → Prop) (σ ad : QSt) (hF : qWF σ) (a : Nat) (ha : a < σ 0 2) (l0 : Nat) (hl0 : l0 < σ 0 0) : Met l yX7_countIfDue wsX7_countIfDue ({ frames := 3, cells := 0, slots := 0, locals := 64 } : Room) (qW G es A σ ad [.ref (ad 0 0), .ref (ad 8 a), .ref (ad 4 l0)]) (qWV (none) (qLW G es A (qfCd σ a l0) ad) A) 0 0 A := by
  refine Met.ofW (cc := cX7_countIfDue) (maxL := 3) (ret := none) (by decide) rfl ?_
  intro p e s m args below meth c s₁ B hml hv
  obtain ⟨rfl, hC, hW, hZ, hA⟩ := hv
  have hx := B.exec
  have hb := B.bytes
  have hr := B.returns
  have hts := atoms_spec (ws := wsX7_countIfDue) B.pre
  have hown : s.vm.findClass RX7 = some m.cls := findClass_of_methodNamed B.named
  have hlocks := B.notSynchronized
  have hB := hF.1
  have hn := hF.n
  have hS : va_S A s.heap s.heap [] := va_S.rf
  have hl := lv_entry ([.ref (ad 0 0), .ref (ad 8 a), .ref (ad 4 l0)]) (n := 3) (Nat.le_of_ble_eq_true rfl)
  rw [lg_entry_eq]
  generalize (lg_sl ([.ref (ad 0 0), .ref (ad 8 a), .ref (ad 4 l0)]) ++ List.replicate (3 - (lg_sl ([.ref (ad 0 0), .ref (ad 8 a), .ref (ad 4 l0)])).length) Slot.unset).toArray = ls at hl ⊢
  have hl : lv_has ls 3 [(0, .ref (ad 0 0)), (1, .ref (ad 8 a)), (2, .ref (ad 4 l0))] := hl
  have iRX7 : ∀ w ∈ wsX70, w ∈ wsX7_countIfDue := by decide +kernel
  have iRX0 : ∀ w ∈ wsX00, w ∈ wsX7_countIfDue := by decide +kernel
  have iRX3 : ∀ w ∈ wsX30, w ∈ wsX7_countIfDue := by decide +kernel
  refine lv_aload_n hx hb dX7_countIfDue_0 rfl (lv_at hl 1 rfl) ?_
  refine lv_aload_n hx hb dX7_countIfDue_1 rfl (lv_at hl 2 rfl) ?_
  refine lv_aload_n hx hb dX7_countIfDue_2 rfl (lv_at hl 0 rfl) ?_
  refine q_get (C := RX7) (T := TX7) (N := 7) hx hb hts iRX7 hown hC.1 (hW.to qLV0) rfl 6 (by decide) (hts (.fieldLink RX7 76 "LogWeave" "now" "I") (List.mem_of_getElem? (i := 1) (by decide +kernel))) rfl (v := .int (nI (σ 1 0))) rfl dX7_countIfDue_3 ?_
  refine q_v (va_runVN (C := RX0) (As := [.ref (ad 4 l0), .int (nI (σ 1 0))]) (rest := []) ⟨hx, hb, hml, hown, hts⟩ (m_counts l G es A σ ad hF a ha l0 hl0) ⟨va_cnB 2 hts gX7_countIfDue_X0_counts_n345 rfl rfl rfl (qm_RX7_345 hC) (hts (.initialized RX0) (List.mem_of_getElem? (i := 3) (by decide +kernel))) (by decide +kernel) ⟨Nat.le_of_ble_eq_true rfl, Nat.le_of_ble_eq_true rfl⟩, (hts (.instanceMethod yX0_counts) (List.mem_of_getElem? (i := 2) (by decide +kernel))), (hts (.selects RX0 yX0_counts yX0_counts) (List.mem_of_getElem? (i := 4) (by decide +kernel)))⟩ ⟨qR.blind, qrecv hC (hW.to (qLV8 ha)) rfl, qR.pre hC hW⟩ rfl rfl hl.1 rfl (lv_room (Nat.le_of_ble_eq_true rfl)) dX7_countIfDue_6 ⟨Nat.le_of_ble_eq_true rfl, Nat.le_of_ble_eq_true rfl⟩) hS (fun _ h => h.elim) (fun locs hS => ?_)
  refine q_eq0 (tgt := 32) hx hb q_31B dX7_countIfDue_9 (by decide) (fun c1 => ?_) (fun c1 => ?_)
  · skip
    exact W.vret hx hb hr (fun t ht _ => ⟨rfl, by rw [ht]; exact (by unfold qfCd; rw [if_neg (fun h => by rw [qB_t h] at c1; exact absurd c1 (by decide))]; exact hW), hS.F ht⟩) hS.2.2 dX7_countIfDue_32
  · skip
    refine lv_aload_n hx hb dX7_countIfDue_12 rfl (lv_at hl 1 rfl) ?_
    refine lv_dup hx hb dX7_countIfDue_13 rfl ?_
    refine q_getN (C := RX0) (T := TX0) (N := 9) hx hb hts iRX0 hown hC.1 (hW.to (qLV8 ha)) rfl 6 (by decide) (va_Nw.use rfl (qf_RX7_213 hC)) rfl (v := .int (nI (σ 132 a))) rfl dX7_countIfDue_14 ?_
    refine lv_iconst (v := nI 1) hx hb dX7_countIfDue_17 (by decide) ?_
    refine lv_iadd hx hb dX7_countIfDue_18 ?_
    refine q_ti (nI_add (σ 132 a) 1) ?_
    refine q_putN (C := RX0) (T := TX0) (N := 9) (ty := .int) (v := .int (nI ((σ 132 a) + 1))) hx hb hts iRX0 tyX0 tyX0_ok nmX0 hown hC.1 (hW.to (qLV8 ha)) (hW.in (qLV8 ha)) hS rfl 6 (by decide) (va_Nw.use rfl (qf_RX7_213 hC)) rfl rfl (by decide +kernel) rfl rfl (Nat.le_of_ble_eq_true rfl) dX7_countIfDue_19 (fun H locs hat hsz hoq hS => ?_)
    have hW := hW.up 132 a ((σ 132 a) + 1) (by decide) (by decide) (qLV8 ha) ((qLV8 (G := G) (es := es) (σ := qup σ 132 a ((σ 132 a) + 1)) (ad := ad) ha).trans (by rw [qup_s]; rfl)) hat hoq
    refine lv_aload_n hx hb dX7_countIfDue_22 rfl (lv_at hl 2 rfl) ?_
    refine lv_dup hx hb dX7_countIfDue_23 rfl ?_
    refine q_getN (C := RX3) (T := TX3) (N := 8) hx hb hts iRX3 hown hC.1 (hW.to (qLV4 hl0)) rfl 7 (by decide) (va_Nw.use rfl (qf_RX7_263 hC)) rfl (v := .int (nI (σ 70 l0))) rfl dX7_countIfDue_24 ?_
    refine lv_iconst (v := nI 1) hx hb dX7_countIfDue_27 (by decide) ?_
    refine lv_iadd hx hb dX7_countIfDue_28 ?_
    refine q_ti (nI_add (σ 70 l0) 1) ?_
    refine q_putN (C := RX3) (T := TX3) (N := 8) (ty := .int) (v := .int (nI ((σ 70 l0) + 1))) hx hb hts iRX3 tyX3 tyX3_ok nmX3 hown hC.1 (hW.to (qLV4 hl0)) (hW.in (qLV4 hl0)) hS rfl 7 (by decide) (va_Nw.use rfl (qf_RX7_263 hC)) rfl rfl (by decide +kernel) rfl rfl (Nat.le_of_ble_eq_true rfl) dX7_countIfDue_29 (fun H locs hat hsz hoq hS => ?_)
    have hW := hW.up 70 l0 ((σ 70 l0) + 1) (by decide) (by decide) (qLV4 hl0) ((qLV4 (G := G) (es := es) (σ := qup (qup σ 132 a ((σ 132 a) + 1)) 70 l0 ((σ 70 l0) + 1)) (ad := ad) hl0).trans (by rw [qup_s]; rfl)) hat hoq
    exact W.vret hx hb hr (fun t ht _ => ⟨rfl, by rw [ht]; exact (by unfold qfCd; rw [if_pos (Classical.byContradiction fun h => c1 (qB_f h))]; exact hW), hS.F ht⟩) hS.2.2 dX7_countIfDue_32
set_option maxHeartbeats 4000000 in
set_option maxRecDepth 100000 in
theorem m_shortenHold (l : Launch) (G : QG) (es : Nat) (A : Nat → Prop) (σ ad : QSt) (hF : qWF σ) (a : Nat) (ha : a < σ 0 2) (c9 : σ 131 a = 104 → 1 ≤ σ 133 a) : Met l yX0_shortenHold wsX0_shortenHold ({ frames := 0, cells := 0, slots := 0, locals := 0 } : Room) (qW G es A σ ad [.ref (ad 8 a)]) (qWV (none) (qLW G es A (qfSh σ a) ad) A) 0 0 A := by
  refine Met.ofW (cc := cX0_shortenHold) (maxL := 1) (ret := none) (by decide) rfl ?_
  intro p e s m args below meth c s₁ B hml hv
  obtain ⟨rfl, hC, hW, hZ, hA⟩ := hv
  have hx := B.exec
  have hb := B.bytes
  have hr := B.returns
  have hts := atoms_spec (ws := wsX0_shortenHold) B.pre
  have hown : s.vm.findClass RX0 = some m.cls := findClass_of_methodNamed B.named
  have hlocks := B.notSynchronized
  have hB := hF.1
  have hn := hF.n
  have hS : va_S A s.heap s.heap [] := va_S.rf
  have hl := lv_entry ([.ref (ad 8 a)]) (n := 1) (Nat.le_of_ble_eq_true rfl)
  rw [lg_entry_eq]
  generalize (lg_sl ([.ref (ad 8 a)]) ++ List.replicate (1 - (lg_sl ([.ref (ad 8 a)])).length) Slot.unset).toArray = ls at hl ⊢
  have hl : lv_has ls 1 [(0, .ref (ad 8 a))] := hl
  have iRX0 : ∀ w ∈ wsX00, w ∈ wsX0_shortenHold := by decide +kernel
  refine lv_aload_n hx hb dX0_shortenHold_0 rfl (lv_at hl 0 rfl) ?_
  refine q_get (C := RX0) (T := TX0) (N := 9) hx hb hts iRX0 hown hC.1 (hW.to (qLV8 ha)) rfl 5 (by decide) (hts (.fieldLink RX0 9 "LogWeave$Alert" "state" "C") (List.mem_of_getElem? (i := 1) (by decide +kernel))) rfl (v := .int (nI (σ 131 a))) rfl dX0_shortenHold_1 ?_
  refine lv_bipush (v := nI 104) hx hb dX0_shortenHold_4 (by decide) ?_
  refine q_eq (tgt := 10) hx hb (q31 (hB _ _)) (by decide) dX0_shortenHold_6 (by decide) (fun c1 => ?_) (fun c1 => ?_)
  · skip
    refine lv_aload_n hx hb dX0_shortenHold_10 rfl (lv_at hl 0 rfl) ?_
    refine lv_dup hx hb dX0_shortenHold_11 rfl ?_
    refine q_get (C := RX0) (T := TX0) (N := 9) hx hb hts iRX0 hown hC.1 (hW.to (qLV8 ha)) rfl 7 (by decide) (hts (.fieldLink RX0 45 "LogWeave$Alert" "heldTicks" "I") (List.mem_of_getElem? (i := 2) (by decide +kernel))) rfl (v := .int (nI (σ 133 a))) rfl dX0_shortenHold_12 ?_
    refine lv_iconst (v := nI 1) hx hb dX0_shortenHold_15 (by decide) ?_
    refine lv_isub hx hb dX0_shortenHold_16 ?_
    have c2 := c9 c1
    refine q_ti (y := nI (σ 133 a - 1)) (pk_sub c2) ?_
    refine q_put (C := RX0) (T := TX0) (N := 9) (ty := .int) (v := .int (nI (σ 133 a - 1))) hx hb hts iRX0 tyX0 tyX0_ok nmX0 hown hC.1 (hW.to (qLV8 ha)) (hW.in (qLV8 ha)) hS rfl 7 (by decide) (hts (.fieldLink RX0 45 "LogWeave$Alert" "heldTicks" "I") (List.mem_of_getElem? (i := 2) (by decide +kernel))) rfl rfl (by decide +kernel) rfl rfl (Nat.le_of_ble_eq_true rfl) dX0_shortenHold_17 (fun H locs hat hsz hoq hS => ?_)
    have hW := hW.up 133 a (σ 133 a - 1) (by decide) (by decide) (qLV8 ha) ((qLV8 (G := G) (es := es) (σ := qup σ 133 a (σ 133 a - 1)) (ad := ad) ha).trans (by rw [qup_s]; rfl)) hat hoq
    refine lv_aload_n hx hb dX0_shortenHold_20 rfl (lv_at hl 0 rfl) ?_
    refine q_get (C := RX0) (T := TX0) (N := 9) hx hb hts iRX0 hown hC.1 (hW.to (qLV8 ha)) rfl 7 (by decide) (hts (.fieldLink RX0 45 "LogWeave$Alert" "heldTicks" "I") (List.mem_of_getElem? (i := 2) (by decide +kernel))) rfl (v := .int (nI ((qup σ 133 a (σ 133 a - 1)) 133 a))) rfl dX0_shortenHold_21 ?_
    refine q_ti (y := nI (σ 133 a - 1)) (by rw [qup_s]) ?_
    refine q_gt0 (tgt := 38) hx hb (by have := hB 133 a; omega) dX0_shortenHold_24 (by decide) (fun c3 => ?_) (fun c3 => ?_)
    · skip
      exact W.vret hx hb hr (fun t ht _ => ⟨rfl, by rw [ht]; exact (by unfold qfSh; rw [if_pos c1, if_pos (by omega)]; exact hW), hS.F ht⟩) hS.2.2 dX0_shortenHold_38
    · skip
      refine lv_aload_n hx hb dX0_shortenHold_27 rfl (lv_at hl 0 rfl) ?_
      refine lv_iconst (v := nI 0) hx hb dX0_shortenHold_28 (by decide) ?_
      refine q_put (C := RX0) (T := TX0) (N := 9) (ty := .int) (v := .int (nI 0)) hx hb hts iRX0 tyX0 tyX0_ok nmX0 hown hC.1 (hW.to (qLV8 ha)) (hW.in (qLV8 ha)) hS rfl 7 (by decide) (hts (.fieldLink RX0 45 "LogWeave$Alert" "heldTicks" "I") (List.mem_of_getElem? (i := 2) (by decide +kernel))) rfl rfl (by decide +kernel) rfl rfl (Nat.le_of_ble_eq_true rfl) dX0_shortenHold_29 (fun H locs hat hsz hoq hS => ?_)
      have hW := hW.up 133 a 0 (by decide) (by decide) (qLV8 ha) ((qLV8 (G := G) (es := es) (σ := qup (qup σ 133 a (σ 133 a - 1)) 133 a 0) (ad := ad) ha).trans (by rw [qup_s]; rfl)) hat hoq
      refine lv_aload_n hx hb dX0_shortenHold_32 rfl (lv_at hl 0 rfl) ?_
      refine lv_bipush (v := nI 113) hx hb dX0_shortenHold_33 (by decide) ?_
      refine q_put (C := RX0) (T := TX0) (N := 9) (ty := .char) (v := .int (nI 113)) hx hb hts iRX0 tyX0 tyX0_ok nmX0 hown hC.1 (hW.to (qLV8 ha)) (hW.in (qLV8 ha)) hS rfl 5 (by decide) (hts (.fieldLink RX0 9 "LogWeave$Alert" "state" "C") (List.mem_of_getElem? (i := 1) (by decide +kernel))) rfl rfl (by decide +kernel) rfl rfl (Nat.le_of_ble_eq_true rfl) dX0_shortenHold_35 (fun H locs hat hsz hoq hS => ?_)
      have hW := hW.up 131 a 113 (by decide) (by decide) (qLV8 ha) ((qLV8 (G := G) (es := es) (σ := qup (qup (qup σ 133 a (σ 133 a - 1)) 133 a 0) 131 a 113) (ad := ad) ha).trans (by rw [qup_s]; rfl)) hat hoq
      exact W.vret hx hb hr (fun t ht _ => ⟨rfl, by rw [ht]; exact (by unfold qfSh; rw [if_pos c1, if_neg (by omega)]; rw [qup_qup] at hW; exact hW), hS.F ht⟩) hS.2.2 dX0_shortenHold_38
  · skip
    exact W.vret hx hb hr (fun t ht _ => ⟨rfl, by rw [ht]; exact (by unfold qfSh; rw [if_neg c1]; exact hW), hS.F ht⟩) hS.2.2 dX0_shortenHold_9
