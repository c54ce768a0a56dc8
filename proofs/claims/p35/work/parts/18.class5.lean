set_option maxHeartbeats 4000000 in
set_option maxRecDepth 100000 in
theorem m_clearLines (l : Launch) (G : QG) (es : Nat) (A : Nat → Prop) (σ ad : QSt) (hF : qWF σ) (f : Nat) (hf : f < σ 0 3) : Met l yX2_clearLines wsX2_clearLines ({ frames := 0, cells := 0, slots := 0, locals := 0 } : Room) (qW G es A σ ad [.ref (ad 10 f)]) (qWV (none) (qLW G es A (qfCl σ f) ad) A) 0 0 A := by
  refine Met.ofW (cc := cX2_clearLines) (maxL := 2) (ret := none) (by decide) rfl ?_
  intro p e s m args below meth c s₁ B hml hv
  obtain ⟨rfl, hC, hW, hZ, hA⟩ := hv
  have hx := B.exec
  have hb := B.bytes
  have hr := B.returns
  have hts := atoms_spec (ws := wsX2_clearLines) B.pre
  have hown : s.vm.findClass RX2 = some m.cls := findClass_of_methodNamed B.named
  have hlocks := B.notSynchronized
  have hB := hF.1
  have hn := hF.n
  have hS : va_S A s.heap s.heap [] := va_S.rf
  have hl := lv_entry ([.ref (ad 10 f)]) (n := 2) (Nat.le_of_ble_eq_true rfl)
  rw [lg_entry_eq]
  generalize (lg_sl ([.ref (ad 10 f)]) ++ List.replicate (2 - (lg_sl ([.ref (ad 10 f)])).length) Slot.unset).toArray = ls at hl ⊢
  have hl : lv_has ls 2 [(0, .ref (ad 10 f))] := hl
  have iRX2 : ∀ w ∈ wsX20, w ∈ wsX2_clearLines := by decide +kernel
  refine lv_iconst (v := nI 0) hx hb dX2_clearLines_0 (by decide) ?_
  refine lv_istore_n (lv' := [(1, .int (nI 0)), (0, .ref (ad 10 f))]) hx hb dX2_clearLines_1 rfl hl (by decide) rfl (fun ls hl => ?_)
  refine q_up 4 (fun i H locs ls => qLW G es A (qset σ (1000 + f) (fun l => l < 64 * i) (fun _ => 0)) ad H ∧ va_S A s.heap H locs ∧ lv_has ls 2 [(0, .ref (ad 10 f)), (1, .int (nI i))]) ?_ ?_ (i0 := 0) (Nat.zero_le _) ⟨(by rw [qset_none (fun j => by omega)]; exact hW), hS, lv_sub hl [1, 0] rfl⟩
  · rintro H locs ls ⟨hW, hS, hl⟩
    have hf : f < (qset σ (1000 + f) (fun l => l < 64 * 4) (fun _ => 0)) 0 3 := by rw [qset_k (by omega)]; exact hf
    refine lv_iload_n hx hb dX2_clearLines_2 rfl (lv_at hl 1 rfl) ?_
    refine lv_aload_n hx hb dX2_clearLines_3 rfl (lv_at hl 0 rfl) ?_
    refine q_get (C := RX2) (T := TX2) (N := 5) hx hb hts iRX2 hown hC.1 (hW.to (qLV10 hf)) rfl 4 (by decide) (hts (.fieldLink RX2 9 "LogWeave$Firing" "onLines" "[J") (List.mem_of_getElem? (i := 1) (by decide +kernel))) rfl (v := .ref (ad 11 f)) rfl dX2_clearLines_4 ?_
    refine va_alen hx hb hC.1 (va_P1 (hW.to (qLV11 hf))) 0 2 rfl rfl (v := nI 4) rfl dX2_clearLines_7 ?_
    refine q_ge (tgt := 24) hx hb (by decide) (by decide) dX2_clearLines_8 (by decide) (fun g1 => ?_) (fun g1 => (by omega))
    refine lv_aload_n hx hb dX2_clearLines_24 rfl (lv_at hl 0 rfl) ?_
    refine lv_iconst (v := nI 0) hx hb dX2_clearLines_25 (by decide) ?_
    refine q_put (C := RX2) (T := TX2) (N := 5) (ty := .int) (v := .int (nI 0)) hx hb hts iRX2 tyX2 tyX2_ok nmX2 hown hC.1 (hW.to (qLV10 hf)) (hW.in (qLV10 hf)) hS rfl 3 (by decide) (hts (.fieldLink RX2 27 "LogWeave$Firing" "size" "I") (List.mem_of_getElem? (i := 2) (by decide +kernel))) rfl rfl (by decide +kernel) rfl rfl (Nat.le_of_ble_eq_true rfl) dX2_clearLines_26 (fun H locs hat hsz hoq hS => ?_)
    have hW := hW.up 163 f 0 (by decide) (by decide) (qLV10 hf) ((qLV10 (G := G) (es := es) (σ := qup (qset σ (1000 + f) (fun l => l < 64 * 4) (fun _ => 0)) 163 f 0) (ad := ad) hf).trans (by rw [qup_s]; rfl)) hat hoq
    exact W.vret hx hb hr (fun t ht _ => ⟨rfl, by rw [ht]; exact hW, hS.F ht⟩) hS.2.2 dX2_clearLines_29
  · rintro i H locs ls hi ⟨hW, hS, hl⟩ ih
    have hf : f < (qset σ (1000 + f) (fun l => l < 64 * i) (fun _ => 0)) 0 3 := by rw [qset_k (by omega)]; exact hf
    refine lv_iload_n hx hb dX2_clearLines_2 rfl (lv_at hl 1 rfl) ?_
    refine lv_aload_n hx hb dX2_clearLines_3 rfl (lv_at hl 0 rfl) ?_
    refine q_get (C := RX2) (T := TX2) (N := 5) hx hb hts iRX2 hown hC.1 (hW.to (qLV10 hf)) rfl 4 (by decide) (hts (.fieldLink RX2 9 "LogWeave$Firing" "onLines" "[J") (List.mem_of_getElem? (i := 1) (by decide +kernel))) rfl (v := .ref (ad 11 f)) rfl dX2_clearLines_4 ?_
    refine va_alen hx hb hC.1 (va_P1 (hW.to (qLV11 hf))) 0 2 rfl rfl (v := nI 4) rfl dX2_clearLines_7 ?_
    refine q_ge (tgt := 24) hx hb (by omega) (by decide) dX2_clearLines_8 (by decide) (fun g2 => (by omega)) (fun g2 => ?_)
    refine lv_aload_n hx hb dX2_clearLines_11 rfl (lv_at hl 0 rfl) ?_
    refine q_get (C := RX2) (T := TX2) (N := 5) hx hb hts iRX2 hown hC.1 (hW.to (qLV10 hf)) rfl 4 (by decide) (hts (.fieldLink RX2 9 "LogWeave$Firing" "onLines" "[J") (List.mem_of_getElem? (i := 1) (by decide +kernel))) rfl (v := .ref (ad 11 f)) rfl dX2_clearLines_12 ?_
    refine lv_iload_n hx hb dX2_clearLines_15 rfl (lv_at hl 1 rfl) ?_
    refine lv_lconst (v := lN 0) hx hb dX2_clearLines_16 (by decide) ?_
    refine q_last hx hb hC.1 (hW.to (qLV11 hf)) (hW.in (qLV11 hf)) hS 2 rfl (vp_in_nI (by omega) (by decide)) dX2_clearLines_17 (fun H locs hat hsz hoq hS => ?_)
    rw [nI_clamp (by omega), q_clr] at hat
    have hf2 : f < (qset σ (1000 + f) (fun l => l < 64 * (i + 1)) (fun _ => 0)) 0 3 := by rw [qset_k (by omega)]; rw [qset_k (by omega)] at hf; exact hf
    have hW := hW.upB f (σ' := (qset σ (1000 + f) (fun l => l < 64 * (i + 1)) (fun _ => 0))) (fun r hr => by funext j; rw [qset_k hr, qset_k hr]) (qLV11 hf) (qLV11 hf2) hat hoq
    refine lv_iinc (v := nI (i + 1)) (lv' := [(1, .int (nI (i + 1))), (0, .ref (ad 10 f))]) hx hb dX2_clearLines_18 hl (k := 1) rfl (nI_1 i) (by decide) rfl (fun ls hl => ?_)
    refine lv_goto (tgt := 2) hx hb dX2_clearLines_21 (by decide) ?_
    exact ih _ _ ls ⟨hW, hS, lv_sub hl [1, 0] rfl⟩
set_option maxHeartbeats 4000000 in
set_option maxRecDepth 100000 in
theorem m_putLine (l : Launch) (G : QG) (es : Nat) (A : Nat → Prop) (σ ad : QSt) (hF : qWF σ) (f : Nat) (hf : f < σ 0 3) (l0 : Nat) (hl0 : l0 < 256) (h0 : σ (1000 + f) l0 ≠ 1) : Met l yX2_putLine wsX2_putLine ({ frames := 1, cells := 0, slots := 0, locals := 21 } : Room) (qW G es A σ ad [.ref (ad 10 f), .int (nI l0)]) (qWV (none) (qLW G es A (qfPl σ f l0) ad) A) 0 0 A := by
  refine Met.ofW (cc := cX2_putLine) (maxL := 2) (ret := none) (by decide) rfl ?_
  intro p e s m args below meth c s₁ B hml hv
  obtain ⟨rfl, hC, hW, hZ, hA⟩ := hv
  have hx := B.exec
  have hb := B.bytes
  have hr := B.returns
  have hts := atoms_spec (ws := wsX2_putLine) B.pre
  have hown : s.vm.findClass RX2 = some m.cls := findClass_of_methodNamed B.named
  have hlocks := B.notSynchronized
  have hB := hF.1
  have hn := hF.n
  have hS : va_S A s.heap s.heap [] := va_S.rf
  have hl := lv_entry ([.ref (ad 10 f), .int (nI l0)]) (n := 2) (Nat.le_of_ble_eq_true rfl)
  rw [lg_entry_eq]
  generalize (lg_sl ([.ref (ad 10 f), .int (nI l0)]) ++ List.replicate (2 - (lg_sl ([.ref (ad 10 f), .int (nI l0)])).length) Slot.unset).toArray = ls at hl ⊢
  have hl : lv_has ls 2 [(0, .ref (ad 10 f)), (1, .int (nI l0))] := hl
  have iRX2 : ∀ w ∈ wsX20, w ∈ wsX2_putLine := by decide +kernel
  refine lv_iload_n hx hb dX2_putLine_0 rfl (lv_at hl 1 rfl) ?_
  refine q_lt0 (tgt := 24) hx hb (by omega) dX2_putLine_1 (by decide) (fun g1 => g1.elim) (fun g1 => ?_)
  refine lv_iload_n hx hb dX2_putLine_4 rfl (lv_at hl 1 rfl) ?_
  refine lv_bipush (v := nI 64) hx hb dX2_putLine_5 (by decide) ?_
  refine lv_idiv hx hb dX2_putLine_7 (by decide) ?_
  refine q_ti (pk_div (by omega) (by decide) (by decide)) ?_
  refine lv_aload_n hx hb dX2_putLine_8 rfl (lv_at hl 0 rfl) ?_
  refine q_get (C := RX2) (T := TX2) (N := 5) hx hb hts iRX2 hown hC.1 (hW.to (qLV10 hf)) rfl 4 (by decide) (hts (.fieldLink RX2 9 "LogWeave$Firing" "onLines" "[J") (List.mem_of_getElem? (i := 1) (by decide +kernel))) rfl (v := .ref (ad 11 f)) rfl dX2_putLine_9 ?_
  refine va_alen hx hb hC.1 (va_P1 (hW.to (qLV11 hf))) 0 2 rfl rfl (v := nI 4) rfl dX2_putLine_12 ?_
  refine q_ge (tgt := 24) hx hb (by omega) (by decide) dX2_putLine_13 (by decide) (fun g2 => (by omega)) (fun g2 => ?_)
  refine lv_aload_n hx hb dX2_putLine_16 rfl (lv_at hl 0 rfl) ?_
  refine lv_iload_n hx hb dX2_putLine_17 rfl (lv_at hl 1 rfl) ?_
  refine q_v (va_runV (As := [.int (nI l0)]) (rest := []) ⟨hx, hb, hml, hown, hts⟩ (m_hasLine l G es A σ ad hF f hf l0 hl0) (cwV 1 hts gX2_putLine_X2_hasLine rfl rfl rfl (by decide +kernel) ⟨Nat.le_of_ble_eq_true rfl, Nat.le_of_ble_eq_true rfl⟩) ⟨qR.blind, qrecv hC (hW.to (qLV10 hf)) rfl, qR.pre hC hW⟩ rfl rfl hl.1 rfl (lv_room (Nat.le_of_ble_eq_true rfl)) dX2_putLine_18 ⟨Nat.le_of_ble_eq_true rfl, Nat.le_of_ble_eq_true rfl⟩) hS (fun _ h => h.elim) (fun locs hS => ?_)
  refine q_eq0 (tgt := 25) hx hb q_31B dX2_putLine_21 (by decide) (fun c9 => ?_) (fun c9 => absurd (qB_f h0) c9)
  refine lv_aload_n hx hb dX2_putLine_25 rfl (lv_at hl 0 rfl) ?_
  refine q_get (C := RX2) (T := TX2) (N := 5) hx hb hts iRX2 hown hC.1 (hW.to (qLV10 hf)) rfl 4 (by decide) (hts (.fieldLink RX2 9 "LogWeave$Firing" "onLines" "[J") (List.mem_of_getElem? (i := 1) (by decide +kernel))) rfl (v := .ref (ad 11 f)) rfl dX2_putLine_26 ?_
  refine lv_iload_n hx hb dX2_putLine_29 rfl (lv_at hl 1 rfl) ?_
  refine lv_bipush (v := nI 64) hx hb dX2_putLine_30 (by decide) ?_
  refine lv_idiv hx hb dX2_putLine_32 (by decide) ?_
  refine q_ti (pk_div (by omega) (by decide) (by decide)) ?_
  refine lv_dup2_11 hx hb dX2_putLine_33 rfl rfl ?_
  refine va_lald hx hb hC.1 (va_P1 (hW.to (qLV11 hf))) 0 2 rfl rfl (vp_in_nI (by omega) (by decide)) dX2_putLine_34 ?_
  refine q_tl (y := qbits (σ (1000 + f)) 64 (l0 / 64)) (by rw [nI_clamp (by omega)]) ?_
  refine lv_lconst (v := 1) hx hb dX2_putLine_35 (by decide) ?_
  refine lv_iload_n hx hb dX2_putLine_36 rfl (lv_at hl 1 rfl) ?_
  refine lv_bipush (v := nI 64) hx hb dX2_putLine_37 (by decide) ?_
  refine lv_irem hx hb dX2_putLine_39 (by decide) ?_
  refine q_ti (pk_rem (by omega) (by decide) (by decide)) ?_
  refine lv_lshl hx hb dX2_putLine_40 rfl ?_
  refine lv_lor hx hb dX2_putLine_41 ?_
  refine q_last hx hb hC.1 (hW.to (qLV11 hf)) (hW.in (qLV11 hf)) hS 2 rfl (vp_in_nI (by omega) (by decide)) dX2_putLine_42 (fun H locs hat hsz hoq hS => ?_)
  rw [nI_clamp (by omega), q_setbits (by decide) (by decide)] at hat
  have hf2 : f < (qset σ (1000 + f) (fun l => l = l0) (fun _ => 1)) 0 3 := by rw [qset_k (by omega)]; exact hf
  have hW := hW.upB f (σ' := (qset σ (1000 + f) (fun l => l = l0) (fun _ => 1))) (fun r hr => by funext j; rw [qset_k hr]) (qLV11 hf) ((qLV11 hf2).trans (by rw [qset_row])) hat hoq
  have e163 : (qset σ (1000 + f) (fun l => l = l0) (fun _ => 1)) 163 f = σ 163 f := qset_k (by omega)
  refine lv_aload_n hx hb dX2_putLine_43 rfl (lv_at hl 0 rfl) ?_
  refine lv_dup hx hb dX2_putLine_44 rfl ?_
  refine q_get (C := RX2) (T := TX2) (N := 5) hx hb hts iRX2 hown hC.1 (hW.to (qLV10 hf2)) rfl 3 (by decide) (hts (.fieldLink RX2 27 "LogWeave$Firing" "size" "I") (List.mem_of_getElem? (i := 2) (by decide +kernel))) rfl (v := .int (nI ((qset σ (1000 + f) (fun l => l = l0) (fun _ => 1)) 163 f))) rfl dX2_putLine_45 ?_
  refine lv_iconst (v := nI 1) hx hb dX2_putLine_48 (by decide) ?_
  refine lv_iadd hx hb dX2_putLine_49 ?_
  refine q_ti (nI_add ((qset σ (1000 + f) (fun l => l = l0) (fun _ => 1)) 163 f) 1) ?_
  refine q_put (C := RX2) (T := TX2) (N := 5) (ty := .int) (v := .int (nI (((qset σ (1000 + f) (fun l => l = l0) (fun _ => 1)) 163 f) + 1))) hx hb hts iRX2 tyX2 tyX2_ok nmX2 hown hC.1 (hW.to (qLV10 hf2)) (hW.in (qLV10 hf2)) hS rfl 3 (by decide) (hts (.fieldLink RX2 27 "LogWeave$Firing" "size" "I") (List.mem_of_getElem? (i := 2) (by decide +kernel))) rfl rfl (by decide +kernel) rfl rfl (Nat.le_of_ble_eq_true rfl) dX2_putLine_50 (fun H locs hat hsz hoq hS => ?_)
  have hW := hW.up 163 f (((qset σ (1000 + f) (fun l => l = l0) (fun _ => 1)) 163 f) + 1) (by decide) (by decide) (qLV10 hf2) ((qLV10 (G := G) (es := es) (σ := qup (qset σ (1000 + f) (fun l => l = l0) (fun _ => 1)) 163 f (((qset σ (1000 + f) (fun l => l = l0) (fun _ => 1)) 163 f) + 1)) (ad := ad) hf2).trans (by rw [qup_s]; rfl)) hat hoq
  exact W.vret hx hb hr (fun t ht _ => ⟨rfl, by rw [ht]; exact (by unfold qfPl; rw [e163] at hW; exact hW), hS.F ht⟩) hS.2.2 dX2_putLine_53
set_option maxHeartbeats 4000000 in
set_option maxRecDepth 100000 in
theorem m_giveUpLines (l : Launch) (G : QG) (es : Nat) (A : Nat → Prop) (σ ad : QSt) (hF : qWF σ) (f : Nat) (hf : f < σ 0 3) (h1 : ∀ l0, l0 < σ 0 0 → σ (1000 + f) l0 = 1 → 1 ≤ σ 70 l0) : Met l yX7_giveUpLines wsX7_giveUpLines ({ frames := 3, cells := 0, slots := 0, locals := 64 } : Room) (qW G es A σ ad [.ref (ad 0 0), .ref (ad 10 f)]) (qWV (none) (qLW G es A (qfGu σ f) ad) A) 0 0 A := by
  refine Met.ofW (cc := cX7_giveUpLines) (maxL := 3) (ret := none) (by decide) rfl ?_
  intro p e s m args below meth c s₁ B hml hv
  obtain ⟨rfl, hC, hW, hZ, hA⟩ := hv
  have hx := B.exec
  have hb := B.bytes
  have hr := B.returns
  have hts := atoms_spec (ws := wsX7_giveUpLines) B.pre
  have hown : s.vm.findClass RX7 = some m.cls := findClass_of_methodNamed B.named
  have hlocks := B.notSynchronized
  have hB := hF.1
  have hn := hF.n
  have hS : va_S A s.heap s.heap [] := va_S.rf
  have hl := lv_entry ([.ref (ad 0 0), .ref (ad 10 f)]) (n := 3) (Nat.le_of_ble_eq_true rfl)
  rw [lg_entry_eq]
  generalize (lg_sl ([.ref (ad 0 0), .ref (ad 10 f)]) ++ List.replicate (3 - (lg_sl ([.ref (ad 0 0), .ref (ad 10 f)])).length) Slot.unset).toArray = ls at hl ⊢
  have hl : lv_has ls 3 [(0, .ref (ad 0 0)), (1, .ref (ad 10 f))] := hl
  have iRX7 : ∀ w ∈ wsX70, w ∈ wsX7_giveUpLines := by decide +kernel
  have iRX3 : ∀ w ∈ wsX30, w ∈ wsX7_giveUpLines := by decide +kernel
  refine lv_iconst (v := nI 0) hx hb dX7_giveUpLines_0 (by decide) ?_
  refine lv_istore_n (lv' := [(2, .int (nI 0)), (0, .ref (ad 0 0)), (1, .ref (ad 10 f))]) hx hb dX7_giveUpLines_1 rfl hl (by decide) rfl (fun ls hl => ?_)
  refine q_up (σ 0 0) (fun i H locs ls => qLW G es A (qset σ 70 (fun l => l < i ∧ σ (1000 + f) l = 1) (fun l => σ 70 l - 1)) ad H ∧ va_S A s.heap H locs ∧ lv_has ls 3 [(0, .ref (ad 0 0)), (1, .ref (ad 10 f)), (2, .int (nI i))]) ?_ ?_ (i0 := 0) (Nat.zero_le _) ⟨(by rw [qset_none (fun j => by omega)]; exact hW), hS, lv_sub hl [1, 2, 0] rfl⟩
  · rintro H locs ls ⟨hW, hS, hl⟩
    refine lv_iload_n hx hb dX7_giveUpLines_2 rfl (lv_at hl 2 rfl) ?_
    refine lv_aload_n hx hb dX7_giveUpLines_3 rfl (lv_at hl 0 rfl) ?_
    refine q_get (C := RX7) (T := TX7) (N := 7) hx hb hts iRX7 hown hC.1 (hW.to qLV0) rfl 0 (by decide) (hts (.fieldLink RX7 10 "LogWeave" "lineList" "Ljava/util/ArrayList;") (List.mem_of_getElem? (i := 1) (by decide +kernel))) rfl (v := .ref (ad 1 0)) rfl dX7_giveUpLines_4 ?_
    refine q_v (va_runV (As := []) (rest := [.int (nI (σ 0 0))]) ⟨hx, hb, hml, hown, hts⟩ (m_size l G (ad 1 0) _ _ (nI ((qset σ 70 (fun l => l < (σ 0 0) ∧ σ (1000 + f) l = 1) (fun l => σ 70 l - 1)) 0 0))) (cwV 0 hts gX7_giveUpLines_Jx4a65c_size_8abf5 rfl rfl rfl (by decide +kernel) ⟨Nat.le_of_ble_eq_true rfl, Nat.le_of_ble_eq_true rfl⟩) ⟨qO.blind, qrecv hC (hW.to (qLV1 (j := 0) (by decide))) rfl, qO.pre hC (hW.lob (by decide))⟩ rfl rfl hl.1 rfl (lv_room (Nat.le_of_ble_eq_true rfl)) dX7_giveUpLines_7 ⟨Nat.le_of_ble_eq_true rfl, Nat.le_of_ble_eq_true rfl⟩) hS (fun _ h => h.elim) (fun locs hS => ?_)
    refine q_ti (y := nI (σ 0 0)) rfl ?_
    refine q_ge (tgt := 47) hx hb (q31 (hB _ _)) (q31 (hB _ _)) dX7_giveUpLines_10 (by decide) (fun g1 => ?_) (fun g1 => (by omega))
    have hF9 : qWF (qset σ 70 (fun l => l < (σ 0 0) ∧ σ (1000 + f) l = 1) (fun l => σ 70 l - 1)) := hF.set 70 _ _ (by decide) (fun j _ => Nat.lt_of_le_of_lt (Nat.sub_le _ _) (hB 70 j)) (by decide)
    refine lv_aload_n hx hb dX7_giveUpLines_47 rfl (lv_at hl 1 rfl) ?_
    refine q_wn (va_runVN (C := RX2) (As := []) (rest := []) ⟨hx, hb, hml, hown, hts⟩ (m_clearLines l G es A (qset σ 70 (fun l => l < (σ 0 0) ∧ σ (1000 + f) l = 1) (fun l => σ 70 l - 1)) ad hF9 f hf) ⟨va_cnB 0 hts gX7_giveUpLines_X2_clearLines_n371 rfl rfl rfl (qm_RX7_371 hC) (hts (.initialized RX2) (List.mem_of_getElem? (i := 10) (by decide +kernel))) (by decide +kernel) ⟨Nat.le_of_ble_eq_true rfl, Nat.le_of_ble_eq_true rfl⟩, (hts (.instanceMethod yX2_clearLines) (List.mem_of_getElem? (i := 31) (by decide +kernel))), (hts (.selects RX2 yX2_clearLines yX2_clearLines) (List.mem_of_getElem? (i := 32) (by decide +kernel)))⟩ ⟨qW.blind, qrecv hC (hW.to (qLV10 hf)) rfl, qW.pre hC hW hZ hS (fun _ h => h) (fun q h => hA q (Nat.le_trans hS.1 h))⟩ rfl rfl hl.1 rfl (lv_room (Nat.le_of_ble_eq_true rfl)) dX7_giveUpLines_48 ⟨Nat.le_of_ble_eq_true rfl, Nat.le_of_ble_eq_true rfl⟩) hS (fun _ h => h) (fun _ h => h) (fun H locs hW hz hk hS => ?_)
    exact W.vret hx hb hr (fun t ht _ => ⟨rfl, by rw [ht]; exact (by unfold qfGu; exact hW), hS.F ht⟩) hS.2.2 dX7_giveUpLines_51
  · rintro i H locs ls hi ⟨hW, hS, hl⟩ ih
    have hF9 : qWF (qset σ 70 (fun l => l < i ∧ σ (1000 + f) l = 1) (fun l => σ 70 l - 1)) := hF.set 70 _ _ (by decide) (fun j _ => Nat.lt_of_le_of_lt (Nat.sub_le _ _) (hB 70 j)) (by decide)
    refine lv_iload_n hx hb dX7_giveUpLines_2 rfl (lv_at hl 2 rfl) ?_
    refine lv_aload_n hx hb dX7_giveUpLines_3 rfl (lv_at hl 0 rfl) ?_
    refine q_get (C := RX7) (T := TX7) (N := 7) hx hb hts iRX7 hown hC.1 (hW.to qLV0) rfl 0 (by decide) (hts (.fieldLink RX7 10 "LogWeave" "lineList" "Ljava/util/ArrayList;") (List.mem_of_getElem? (i := 1) (by decide +kernel))) rfl (v := .ref (ad 1 0)) rfl dX7_giveUpLines_4 ?_
    refine q_v (va_runV (As := []) (rest := [.int (nI i)]) ⟨hx, hb, hml, hown, hts⟩ (m_size l G (ad 1 0) _ _ (nI ((qset σ 70 (fun l => l < i ∧ σ (1000 + f) l = 1) (fun l => σ 70 l - 1)) 0 0))) (cwV 0 hts gX7_giveUpLines_Jx4a65c_size_8abf5 rfl rfl rfl (by decide +kernel) ⟨Nat.le_of_ble_eq_true rfl, Nat.le_of_ble_eq_true rfl⟩) ⟨qO.blind, qrecv hC (hW.to (qLV1 (j := 0) (by decide))) rfl, qO.pre hC (hW.lob (by decide))⟩ rfl rfl hl.1 rfl (lv_room (Nat.le_of_ble_eq_true rfl)) dX7_giveUpLines_7 ⟨Nat.le_of_ble_eq_true rfl, Nat.le_of_ble_eq_true rfl⟩) hS (fun _ h => h.elim) (fun locs hS => ?_)
    refine q_ti (y := nI (σ 0 0)) rfl ?_
    refine q_ge (tgt := 47) hx hb (by omega) (q31 (hB _ _)) dX7_giveUpLines_10 (by decide) (fun g2 => (by omega)) (fun g2 => ?_)
    refine lv_aload_n hx hb dX7_giveUpLines_13 rfl (lv_at hl 1 rfl) ?_
    refine lv_iload_n hx hb dX7_giveUpLines_14 rfl (lv_at hl 2 rfl) ?_
    refine q_v (va_runVN (C := RX2) (As := [.int (nI i)]) (rest := []) ⟨hx, hb, hml, hown, hts⟩ (m_hasLine l G es A (qset σ 70 (fun l => l < i ∧ σ (1000 + f) l = 1) (fun l => σ 70 l - 1)) ad hF9 f hf i (by omega)) ⟨va_cnB 1 hts gX7_giveUpLines_X2_hasLine_n239 rfl rfl rfl (qm_RX7_239 hC) (hts (.initialized RX2) (List.mem_of_getElem? (i := 10) (by decide +kernel))) (by decide +kernel) ⟨Nat.le_of_ble_eq_true rfl, Nat.le_of_ble_eq_true rfl⟩, (hts (.instanceMethod yX2_hasLine) (List.mem_of_getElem? (i := 9) (by decide +kernel))), (hts (.selects RX2 yX2_hasLine yX2_hasLine) (List.mem_of_getElem? (i := 11) (by decide +kernel)))⟩ ⟨qR.blind, qrecv hC (hW.to (qLV10 hf)) rfl, qR.pre hC hW⟩ rfl rfl hl.1 rfl (lv_room (Nat.le_of_ble_eq_true rfl)) dX7_giveUpLines_15 ⟨Nat.le_of_ble_eq_true rfl, Nat.le_of_ble_eq_true rfl⟩) hS (fun _ h => h.elim) (fun locs hS => ?_)
    have e1 : (qset σ 70 (fun l => l < i ∧ σ (1000 + f) l = 1) (fun l => σ 70 l - 1)) (1000 + f) i = σ (1000 + f) i := qset_k (by omega)
    refine q_eq0 (tgt := 41) hx hb q_31B dX7_giveUpLines_18 (by decide) (fun c3 => ?_) (fun c3 => ?_)
    · skip
      have c4 : σ (1000 + f) i ≠ 1 := fun z => by rw [e1, qB_t z] at c3; exact absurd c3 (by decide)
      refine lv_iinc (v := nI (i + 1)) (lv' := [(2, .int (nI (i + 1))), (0, .ref (ad 0 0)), (1, .ref (ad 10 f))]) hx hb dX7_giveUpLines_41 hl (k := 2) rfl (nI_1 i) (by decide) rfl (fun ls hl => ?_)
      refine lv_goto (tgt := 2) hx hb dX7_giveUpLines_44 (by decide) ?_
      exact ih _ _ ls ⟨(by rw [qset_eq (O := fun l => l < i ∧ σ (1000 + f) l = 1) (fun j => ⟨fun z => ⟨(Nat.lt_succ_iff_lt_or_eq.mp z.1).elim id (fun e => absurd (by rw [← e]; exact z.2) c4), z.2⟩, fun z => ⟨Nat.lt_succ_of_lt z.1, z.2⟩⟩)]; exact hW), hS, lv_sub hl [1, 2, 0] rfl⟩
    · skip
      have c4 : σ (1000 + f) i = 1 := Classical.byContradiction fun z => c3 (qB_f (by rw [e1]; exact z))
      have c5 := h1 i hi c4
      refine lv_aload_n hx hb dX7_giveUpLines_21 rfl (lv_at hl 0 rfl) ?_
      refine q_get (C := RX7) (T := TX7) (N := 7) hx hb hts iRX7 hown hC.1 (hW.to qLV0) rfl 0 (by decide) (hts (.fieldLink RX7 10 "LogWeave" "lineList" "Ljava/util/ArrayList;") (List.mem_of_getElem? (i := 1) (by decide +kernel))) rfl (v := .ref (ad 1 0)) rfl dX7_giveUpLines_22 ?_
      refine lv_iload_n hx hb dX7_giveUpLines_25 rfl (lv_at hl 2 rfl) ?_
      refine q_v (va_runV (As := [.int (nI i)]) (rest := []) ⟨hx, hb, hml, hown, hts⟩ (m_get l G (ad 1 0) (ad 2 0) ((qset σ 70 (fun l => l < i ∧ σ (1000 + f) l = 1) (fun l => σ 70 l - 1)) 32 0) ((qset σ 70 (fun l => l < i ∧ σ (1000 + f) l = 1) (fun l => σ 70 l - 1)) 0 0) (fun i => if i < (qset σ 70 (fun l => l < i ∧ σ (1000 + f) l = 1) (fun l => σ 70 l - 1)) 0 0 then some (ad (4 + 2 * 0) i) else none) (.int (nI ((qset σ 70 (fun l => l < i ∧ σ (1000 + f) l = 1) (fun l => σ 70 l - 1)) 16 0))) i (ad 4 i) hi (hF9.c 0) (hF9.1 _ _) (if_pos hi)) (cwV 1 hts gX7_giveUpLines_Jx4a65c_get_915e3 rfl rfl rfl (by decide +kernel) ⟨Nat.le_of_ble_eq_true rfl, Nat.le_of_ble_eq_true rfl⟩) ⟨qO.blind, qrecv hC (hW.to (qLV1 (j := 0) (by decide))) rfl, qO.pre hC (hW.list hF9 (J := 0) (by decide) hi)⟩ rfl rfl hl.1 rfl (lv_room (Nat.le_of_ble_eq_true rfl)) dX7_giveUpLines_26 ⟨Nat.le_of_ble_eq_true rfl, Nat.le_of_ble_eq_true rfl⟩) hS (fun _ h => h.elim) (fun locs hS => ?_)
      refine va_castS hx hb hown (hts (.classLink RX7 74 "LogWeave$Line") (List.mem_of_getElem? (i := 2) (by decide +kernel))) (hC.1.1 6 _ rfl).2 (qrecv hC (hW.to (qLV4 hi)) rfl) dX7_giveUpLines_29 ?_
      refine lv_dup hx hb dX7_giveUpLines_32 rfl ?_
      refine q_getN (C := RX3) (T := TX3) (N := 8) hx hb hts iRX3 hown hC.1 (hW.to (qLV4 hi)) rfl 7 (by decide) (va_Nw.use rfl (qf_RX7_263 hC)) rfl (v := .int (nI ((qset σ 70 (fun l => l < i ∧ σ (1000 + f) l = 1) (fun l => σ 70 l - 1)) 70 i))) rfl dX7_giveUpLines_33 ?_
      refine q_ti (y := nI (σ 70 i)) (by rw [qset_out (by omega)]) ?_
      refine lv_iconst (v := nI 1) hx hb dX7_giveUpLines_36 (by decide) ?_
      refine lv_isub hx hb dX7_giveUpLines_37 ?_
      refine q_ti (pk_sub c5) ?_
      refine q_putN (C := RX3) (T := TX3) (N := 8) (ty := .int) (v := .int (nI (σ 70 i - 1))) hx hb hts iRX3 tyX3 tyX3_ok nmX3 hown hC.1 (hW.to (qLV4 hi)) (hW.in (qLV4 hi)) hS rfl 7 (by decide) (va_Nw.use rfl (qf_RX7_263 hC)) rfl rfl (by decide +kernel) rfl rfl (Nat.le_of_ble_eq_true rfl) dX7_giveUpLines_38 (fun H locs hat hsz hoq hS => ?_)
      have hW := hW.up 70 i (σ 70 i - 1) (by decide) (by decide) (qLV4 hi) ((qLV4 (G := G) (es := es) (σ := qup (qset σ 70 (fun l => l < i ∧ σ (1000 + f) l = 1) (fun l => σ 70 l - 1)) 70 i (σ 70 i - 1)) (ad := ad) hi).trans (by rw [qup_s]; rfl)) hat hoq
      refine lv_iinc (v := nI (i + 1)) (lv' := [(2, .int (nI (i + 1))), (0, .ref (ad 0 0)), (1, .ref (ad 10 f))]) hx hb dX7_giveUpLines_41 hl (k := 2) rfl (nI_1 i) (by decide) rfl (fun ls hl => ?_)
      refine lv_goto (tgt := 2) hx hb dX7_giveUpLines_44 (by decide) ?_
      exact ih _ _ ls ⟨(by rw [qset_ins (P := fun l => l < i ∧ σ (1000 + f) l = 1) (i := i) (fun j => ⟨fun z => (Nat.lt_succ_iff_lt_or_eq.mp z.1).elim (fun e => Or.inl ⟨e, z.2⟩) Or.inr, fun z => z.elim (fun e => ⟨Nat.lt_succ_of_lt e.1, e.2⟩) (fun e => by rw [e]; exact ⟨Nat.lt_succ_self i, c4⟩)⟩)]; exact hW), hS, lv_sub hl [1, 2, 0] rfl⟩
set_option maxHeartbeats 4000000 in
set_option maxRecDepth 100000 in
theorem m_lookAtSource (l : Launch) (G : QG) (es : Nat) (A : Nat → Prop) (σ ad : QSt) (hF : qWF σ) (s0 : Nat) (hs0 : s0 < 4) : Met l yX7_lookAtSource wsX7_lookAtSource ({ frames := 4, cells := 0, slots := 0, locals := 88 } : Room) (qW G es A σ ad [.ref (ad 0 0), .int (nI s0)]) (qWV (some (.int (nI (qfLs σ s0 200).2))) (qLW G es A (qfLs σ s0 200).1 ad) A) 0 0 A := by
  refine Met.ofW (cc := cX7_lookAtSource) (maxL := 5) (ret := (some .int)) (by decide) rfl ?_
  intro p e s m args below meth c s₁ B hml hv
  obtain ⟨rfl, hC, hW, hZ, hA⟩ := hv
  have hx := B.exec
  have hb := B.bytes
  have hr := B.returns
  have hts := atoms_spec (ws := wsX7_lookAtSource) B.pre
  have hown : s.vm.findClass RX7 = some m.cls := findClass_of_methodNamed B.named
  have hlocks := B.notSynchronized
  have hB := hF.1
  have hn := hF.n
  have hS : va_S A s.heap s.heap [] := va_S.rf
  have hl := lv_entry ([.ref (ad 0 0), .int (nI s0)]) (n := 5) (Nat.le_of_ble_eq_true rfl)
  rw [lg_entry_eq]
  generalize (lg_sl ([.ref (ad 0 0), .int (nI s0)]) ++ List.replicate (5 - (lg_sl ([.ref (ad 0 0), .int (nI s0)])).length) Slot.unset).toArray = ls at hl ⊢
  have hl : lv_has ls 5 [(0, .ref (ad 0 0)), (1, .int (nI s0))] := hl
  have iRX7 : ∀ w ∈ wsX70, w ∈ wsX7_lookAtSource := by decide +kernel
  have iRX3 : ∀ w ∈ wsX30, w ∈ wsX7_lookAtSource := by decide +kernel
  refine lv_iload_n hx hb dX7_lookAtSource_0 rfl (lv_at hl 1 rfl) ?_
  refine q_lt0 (tgt := 13) hx hb (by omega) dX7_lookAtSource_1 (by decide) (fun g1 => g1.elim) (fun g1 => ?_)
  refine lv_iload_n hx hb dX7_lookAtSource_4 rfl (lv_at hl 1 rfl) ?_
  refine lv_aload_n hx hb dX7_lookAtSource_5 rfl (lv_at hl 0 rfl) ?_
  refine q_get (C := RX7) (T := TX7) (N := 7) hx hb hts iRX7 hown hC.1 (hW.to qLV0) rfl 5 (by decide) (hts (.fieldLink RX7 28 "LogWeave" "budgets" "[I") (List.mem_of_getElem? (i := 1) (by decide +kernel))) rfl (v := .ref (ad 3 0)) rfl dX7_lookAtSource_6 ?_
  refine va_alen hx hb hC.1 (va_P1 (hW.to qLV3)) 0 1 rfl rfl (v := nI 4) rfl dX7_lookAtSource_9 ?_
  refine q_lt (tgt := 15) hx hb (by omega) (by decide) dX7_lookAtSource_10 (by decide) (fun g2 => ?_) (fun g2 => (by omega))
  refine lv_aload_n hx hb dX7_lookAtSource_15 rfl (lv_at hl 0 rfl) ?_
  refine lv_iload_n hx hb dX7_lookAtSource_16 rfl (lv_at hl 1 rfl) ?_
  refine q_v (va_runV (As := [.int (nI s0)]) (rest := []) ⟨hx, hb, hml, hown, hts⟩ (m_keptBytes l G es A σ ad hF s0 (by omega)) (cwV 1 hts gX7_lookAtSource_X7_keptBytes rfl rfl rfl (by decide +kernel) ⟨Nat.le_of_ble_eq_true rfl, Nat.le_of_ble_eq_true rfl⟩) ⟨qR.blind, qrecv hC (hW.to qLV0) rfl, qR.pre hC hW⟩ rfl rfl hl.1 rfl (lv_room (Nat.le_of_ble_eq_true rfl)) dX7_lookAtSource_17 ⟨Nat.le_of_ble_eq_true rfl, Nat.le_of_ble_eq_true rfl⟩) hS (fun _ h => h.elim) (fun locs hS => ?_)
  refine lv_aload_n hx hb dX7_lookAtSource_20 rfl (lv_at hl 0 rfl) ?_
  refine q_get (C := RX7) (T := TX7) (N := 7) hx hb hts iRX7 hown hC.1 (hW.to qLV0) rfl 5 (by decide) (hts (.fieldLink RX7 28 "LogWeave" "budgets" "[I") (List.mem_of_getElem? (i := 1) (by decide +kernel))) rfl (v := .ref (ad 3 0)) rfl dX7_lookAtSource_21 ?_
  refine lv_iload_n hx hb dX7_lookAtSource_24 rfl (lv_at hl 1 rfl) ?_
  refine va_iald hx hb hC.1 (va_P1 (hW.to qLV3)) 0 1 rfl rfl (vp_in_nI hs0 (by decide)) dX7_lookAtSource_25 ?_
  refine q_ti (y := nI (σ 48 s0)) (by rw [nI_clamp (by omega)]) ?_
  refine lv_isub hx hb dX7_lookAtSource_26 ?_
  refine lv_istore_n (lv' := [(2, .int ((nI (qkept σ s0)) - (nI (σ 48 s0)))), (0, .ref (ad 0 0)), (1, .int (nI s0))]) hx hb dX7_lookAtSource_27 rfl hl (by decide) rfl (fun ls hl => ?_)
  refine lv_iconst (v := nI 0) hx hb dX7_lookAtSource_28 (by decide) ?_
  refine lv_istore_n (lv' := [(3, .int (nI 0)), (2, .int ((nI (qkept σ s0)) - (nI (σ 48 s0)))), (0, .ref (ad 0 0)), (1, .int (nI s0))]) hx hb dX7_lookAtSource_29 rfl hl (by decide) rfl (fun ls hl => ?_)
  refine q_up 200 (fun i H locs ls => va_S A s.heap H locs ∧ (∃ τ, qWF τ ∧ τ 0 0 = σ 0 0 ∧ τ 48 s0 = σ 48 s0 ∧ qLW G es A τ ad H ∧ qfLs σ s0 200 = ((qfLs τ s0 (200 - i)).1, i + (qfLs τ s0 (200 - i)).2) ∧ lv_has ls 5 [(0, .ref (ad 0 0)), (1, .int (nI s0)), (2, .int (nI (qkept τ s0) - nI (σ 48 s0))), (3, .int (nI i))])) ?_ ?_ (i0 := 0) (Nat.zero_le _) ⟨hS, σ, hF, rfl, rfl, hW, by rw [Nat.zero_add], lv_sub hl [2, 3, 1, 0] rfl⟩
  · rintro H locs ls ⟨hS, τ, hF9, hc9, hb9, hW, eF, hl⟩
    have hB9 := hF9.1
    have hK9 : qkept τ s0 < 1073741824 := qkept_lt hF9 s0
    rw [Nat.sub_self] at eF
    refine lv_iload_n hx hb dX7_lookAtSource_30 rfl (lv_at hl 2 rfl) ?_
    refine lv_if_le (tgt := 76) hx hb dX7_lookAtSource_31 (by decide) (fun c5 => ?_) (fun c5 => ?_)
    · skip
      refine lv_iload_n hx hb dX7_lookAtSource_76 rfl (lv_at hl 3 rfl) ?_
      exact W.iret hx hb hr (fun t ht _ => ⟨by rw [eF]; rfl, by rw [ht, eF]; exact hW, hS.F ht⟩) hS.2.2 dX7_lookAtSource_77
    · skip
      refine lv_iload_n hx hb dX7_lookAtSource_34 rfl (lv_at hl 3 rfl) ?_
      refine lv_sipush (v := nI 200) hx hb dX7_lookAtSource_35 (by decide) ?_
      refine q_ge (tgt := 76) hx hb (by decide) (by decide) dX7_lookAtSource_38 (by decide) (fun g3 => ?_) (fun g3 => (by omega))
      refine lv_iload_n hx hb dX7_lookAtSource_76 rfl (lv_at hl 3 rfl) ?_
      exact W.iret hx hb hr (fun t ht _ => ⟨by rw [eF]; rfl, by rw [ht, eF]; exact hW, hS.F ht⟩) hS.2.2 dX7_lookAtSource_77
  · rintro i H locs ls hi ⟨hS, τ, hF9, hc9, hb9, hW, eF, hl⟩ ih
    have hB9 := hF9.1
    have hK9 : qkept τ s0 < 1073741824 := qkept_lt hF9 s0
    obtain ⟨n, en⟩ : ∃ n, 200 - i = n + 1 := ⟨200 - i - 1, by omega⟩
    rw [en] at eF
    refine lv_iload_n hx hb dX7_lookAtSource_30 rfl (lv_at hl 2 rfl) ?_
    refine lv_if_le (tgt := 76) hx hb dX7_lookAtSource_31 (by decide) (fun c5 => ?_) (fun c5 => ?_)
    · skip
      have c6 : ¬ τ 48 s0 < qkept τ s0 := by rw [hb9]; exact Nat.not_lt.mpr ((q_subpos hK9 (hB 48 s0)).mp c5)
      have e6 : qfLs τ s0 (n + 1) = (τ, 0) := by rw [qfLs, if_neg c6]
      rw [e6] at eF
      refine lv_iload_n hx hb dX7_lookAtSource_76 rfl (lv_at hl 3 rfl) ?_
      exact W.iret hx hb hr (fun t ht _ => ⟨by rw [eF]; rfl, by rw [ht, eF]; exact hW, hS.F ht⟩) hS.2.2 dX7_lookAtSource_77
    · skip
      have c6 : τ 48 s0 < qkept τ s0 := by rw [hb9]; exact Nat.not_le.mp (fun z => c5 ((q_subpos hK9 (hB 48 s0)).mpr z))
      refine lv_iload_n hx hb dX7_lookAtSource_34 rfl (lv_at hl 3 rfl) ?_
      refine lv_sipush (v := nI 200) hx hb dX7_lookAtSource_35 (by decide) ?_
      refine q_ge (tgt := 76) hx hb (by omega) (by decide) dX7_lookAtSource_38 (by decide) (fun g4 => (by omega)) (fun g4 => ?_)
      refine lv_aload_n hx hb dX7_lookAtSource_41 rfl (lv_at hl 0 rfl) ?_
      refine lv_iload_n hx hb dX7_lookAtSource_42 rfl (lv_at hl 1 rfl) ?_
      refine q_v (va_runV (As := [.int (nI s0)]) (rest := []) ⟨hx, hb, hml, hown, hts⟩ (m_nextToDrop l G es A τ ad hF9 s0 (by omega)) (cwV 1 hts gX7_lookAtSource_X7_nextToDrop rfl rfl rfl (by decide +kernel) ⟨Nat.le_of_ble_eq_true rfl, Nat.le_of_ble_eq_true rfl⟩) ⟨qR.blind, qrecv hC (hW.to qLV0) rfl, qR.pre hC hW⟩ rfl rfl hl.1 rfl (lv_room (Nat.le_of_ble_eq_true rfl)) dX7_lookAtSource_43 ⟨Nat.le_of_ble_eq_true rfl, Nat.le_of_ble_eq_true rfl⟩) hS (fun _ h => h.elim) (fun locs hS => ?_)
      cases hq : qnd τ s0 (τ 0 0) with
      | none =>
        have e6 : qfLs τ s0 (n + 1) = (τ, 0) := by rw [qfLs, if_pos c6, hq]
        rw [e6] at eF
        refine lv_astoreN (lv' := [(4, .null), (0, .ref (ad 0 0)), (1, .int (nI s0)), (2, .int (nI (qkept τ s0) - nI (σ 48 s0))), (3, .int (nI i))]) hx hb dX7_lookAtSource_46 hl (by decide) rfl (fun ls hl => ?_)
        refine lv_aloadN hx hb dX7_lookAtSource_48 (lv_at hl 0 rfl) ?_
        refine lv_ifnonnullN hx hb dX7_lookAtSource_50 ?_
        refine lv_iload_n hx hb dX7_lookAtSource_53 rfl (lv_at hl 4 rfl) ?_
        exact W.iret hx hb hr (fun t ht _ => ⟨by rw [eF]; rfl, by rw [ht, eF]; exact hW, hS.F ht⟩) hS.2.2 dX7_lookAtSource_54
      | some k =>
        have hk := qnd_is τ s0 _ k hq
        have hk1 := hk.1
        have e6 : qfLs τ s0 (n + 1) = ((qfLs (qup τ 69 k 100) s0 n).1, (qfLs (qup τ 69 k 100) s0 n).2 + 1) := by rw [qfLs, if_pos c6, hq]
        rw [e6] at eF
        have hd := qkept_drop hk1 hk.2.1 hk.2.2.1
        refine lv_astore (lv' := [(4, .ref (ad 4 k)), (0, .ref (ad 0 0)), (1, .int (nI s0)), (2, .int (nI (qkept τ s0) - nI (σ 48 s0))), (3, .int (nI i))]) hx hb dX7_lookAtSource_46 hl (by decide) rfl (fun ls hl => ?_)
        refine lv_aload hx hb dX7_lookAtSource_48 (lv_at hl 0 rfl) ?_
        refine lv_ifnonnull (tgt := 55) hx hb dX7_lookAtSource_50 (by decide) ?_
        refine lv_aload hx hb dX7_lookAtSource_55 (lv_at hl 0 rfl) ?_
        refine lv_bipush (v := nI 100) hx hb dX7_lookAtSource_57 (by decide) ?_
        refine q_putN (C := RX3) (T := TX3) (N := 8) (ty := .char) (v := .int (nI 100)) hx hb hts iRX3 tyX3 tyX3_ok nmX3 hown hC.1 (hW.to (qLV4 hk1)) (hW.in (qLV4 hk1)) hS rfl 6 (by decide) (va_Nw.use rfl (qf_RX7_103 hC)) rfl rfl (by decide +kernel) (pk_charN (by decide)).1 (pk_charN (by decide)).2 (Nat.le_of_ble_eq_true rfl) dX7_lookAtSource_59 (fun H locs hat hsz hoq hS => ?_)
        have hW := hW.up 69 k 100 (by decide) (by decide) (qLV4 hk1) ((qLV4 (G := G) (es := es) (σ := qup τ 69 k 100) (ad := ad) hk1).trans (by rw [qup_s]; rfl)) hat hoq
        refine lv_iload_n hx hb dX7_lookAtSource_62 rfl (lv_at hl 3 rfl) ?_
        refine lv_aload hx hb dX7_lookAtSource_63 (lv_at hl 0 rfl) ?_
        refine q_getN (C := RX3) (T := TX3) (N := 8) hx hb hts iRX3 hown hC.1 (hW.to (qLV4 hk1)) rfl 3 (by decide) (va_Nw.use rfl (qf_RX7_273 hC)) rfl (v := .int (nI (τ 66 k))) rfl dX7_lookAtSource_65 ?_
        refine lv_isub hx hb dX7_lookAtSource_68 ?_
        refine q_ti (by rw [q_subsub (by omega), show qkept τ s0 - τ 66 k = qkept (qup τ 69 k 100) s0 by omega]) ?_
        refine lv_istore_n (lv' := [(2, .int (nI (qkept (qup τ 69 k 100) s0) - nI (σ 48 s0))), (4, .ref (ad 4 k)), (0, .ref (ad 0 0)), (1, .int (nI s0)), (3, .int (nI i))]) hx hb dX7_lookAtSource_69 rfl hl (by decide) rfl (fun ls hl => ?_)
        refine lv_iinc (v := nI (i + 1)) (lv' := [(3, .int (nI (i + 1))), (2, .int (nI (qkept (qup τ 69 k 100) s0) - nI (σ 48 s0))), (4, .ref (ad 4 k)), (0, .ref (ad 0 0)), (1, .int (nI s0))]) hx hb dX7_lookAtSource_70 hl (k := 4) rfl (nI_1 i) (by decide) rfl (fun ls hl => ?_)
        refine lv_goto (tgt := 30) hx hb dX7_lookAtSource_73 (by decide) ?_
        have hF8 : qWF (qup τ 69 k 100) := hF9.up 69 k 100 (by decide) (by decide) (by decide) (fun z => absurd z (by decide)) (fun _ => by decide) (fun z => absurd z (by decide)) (fun z => absurd z (by decide))
        exact ih _ _ ls ⟨hS, qup τ 69 k 100, hF8, (qup_k (by decide)).trans hc9, (qup_k (by decide)).trans hb9, hW, by rw [eF, show 200 - (i + 1) = n by omega]; exact Prod.ext rfl (by show i + (_ + 1) = i + 1 + _; omega), lv_sub hl [3, 4, 1, 0] rfl⟩
