set_option maxHeartbeats 4000000 in
set_option maxRecDepth 100000 in
theorem m_rdroppedShare (l : Launch) (G : QG) (A : Nat → Prop) (ρ bd : QSt) (hF : rWF (rT ρ)) (h0 : 0 < (rT ρ) 0 0) : Met l yX8_droppedShare wsX8_droppedShare ({ frames := 1, cells := 0, slots := 0, locals := 25 } : Room) (rR G A ρ bd [.ref (bd 0 0)]) (qWV (some (.float (FP.fdiv (FP.i2f (nI (qsum (fun l => qB ((rT ρ) 69 l = 100 ∧ 0 ≤ (rT ρ) 65 l)) ((rT ρ) 0 0)))) (FP.i2f (nI ((rT ρ) 0 0)))))) (rW G A (rT ρ) bd) A) 0 0 A := by
  refine Met.ofW (cc := cX8_droppedShare) (maxL := 1) (ret := (some .float)) (by decide) rfl ?_
  intro p e s m args below meth c s₁ B hml hv
  obtain ⟨rfl, hC, hW⟩ := hv
  have hx := B.exec
  have hb := B.bytes
  have hr := B.returns
  have hts := atoms_spec (ws := wsX8_droppedShare) B.pre
  have hown : s.vm.findClass RX8 = some m.cls := findClass_of_methodNamed B.named
  have hlocks := B.notSynchronized
  have hB := hF.1
  have hn := hF.n
  have hS : va_S A s.heap s.heap [] := va_S.rf
  have hl := lv_entry ([.ref (bd 0 0)]) (n := 1) (Nat.le_of_ble_eq_true rfl)
  rw [lg_entry_eq]
  generalize (lg_sl ([.ref (bd 0 0)]) ++ List.replicate (1 - (lg_sl ([.ref (bd 0 0)])).length) Slot.unset).toArray = ls at hl ⊢
  have hl : lv_has ls 1 [(0, .ref (bd 0 0))] := hl
  have iRX8 : ∀ w ∈ wsX80, w ∈ wsX8_droppedShare := by decide +kernel
  refine lv_aload_n hx hb dX8_droppedShare_0 rfl (lv_at hl 0 rfl) ?_
  refine lv_iconst (v := nI 0) hx hb dX8_droppedShare_1 (by decide) ?_
  refine q_put (C := RX8) (T := TX8) (N := 36) (ty := .int) (v := .int (nI 0)) hx hb hts iRX8 tyX8 tyX8_ok nmX8 hown hC.1 (hW.to rLV0) (hW.in rLV0) hS rfl 0 (by decide) (hts (.fieldLink RX8 100 "LogWeaveModel" "thrown" "I") (List.mem_of_getElem? (i := 1) (by decide +kernel))) rfl rfl (by decide +kernel) rfl rfl (Nat.le_of_ble_eq_true rfl) dX8_droppedShare_2 (fun H1 locs hat hsz hoq hS => ?_)
  have hW := hW.upR 2 0 0 rfl rLV0 ((rLV0 (ρ := (qup ρ 2 0 0))).trans (by rw [qup_s]; rfl)) hat hoq
  have hW : rW G A (rT ρ) bd _ := hW
  refine lv_aload_n hx hb dX8_droppedShare_5 rfl (lv_at hl 0 rfl) ?_
  refine lv_aload_n hx hb dX8_droppedShare_6 rfl (lv_at hl 0 rfl) ?_
  refine q_get (C := RX8) (T := TX8) (N := 36) hx hb hts iRX8 hown hC.1 (hW.to rLV0) rfl 2 (by decide) (hts (.fieldLink RX8 104 "LogWeaveModel" "lines" "I") (List.mem_of_getElem? (i := 2) (by decide +kernel))) rfl (v := .int (nI ((rT ρ) 0 0))) rfl dX8_droppedShare_7 ?_
  refine q_ne0 (tgt := 17) hx hb (q31 (hB _ _)) dX8_droppedShare_10 (by decide) (fun g1 => ?_) (fun g1 => ?_)
  · skip
    refine lv_iconst (v := nI 0) hx hb dX8_droppedShare_17 (by decide) ?_
    refine lv_iconst (v := nI 1) hx hb dX8_droppedShare_18 (by decide) ?_
    refine q_v (va_runV (As := [.int (nI 0), .int (nI 1)]) (rest := []) ⟨hx, hb, hml, hown, hts⟩ (m_rfails0 l G A (rT ρ) bd hF 1 (rT_0 ρ)) (cwV 2 hts gX8_droppedShare_X8_fails rfl rfl rfl (by decide +kernel) ⟨Nat.le_of_ble_eq_true rfl, Nat.le_of_ble_eq_true rfl⟩) ⟨rR.blind, qrecv hC (hW.to rLV0) rfl, rR.pre hC hW⟩ rfl rfl hl.1 rfl (lv_room (Nat.le_of_ble_eq_true rfl)) dX8_droppedShare_19 ⟨Nat.le_of_ble_eq_true rfl, Nat.le_of_ble_eq_true rfl⟩) hS (fun _ h => h.elim) (fun locs hS => ?_)
    refine q_eq0 (tgt := 29) hx hb (by decide) dX8_droppedShare_22 (by decide) (fun g2 => ?_) (fun g2 => (by omega))
    refine lv_aload_n hx hb dX8_droppedShare_29 rfl (lv_at hl 0 rfl) ?_
    refine lv_iconst (v := -1) hx hb dX8_droppedShare_30 (by decide) ?_
    refine lv_bipush (v := nI 100) hx hb dX8_droppedShare_31 (by decide) ?_
    refine lv_iconst (v := nI 0) hx hb dX8_droppedShare_33 (by decide) ?_
    refine q_v (va_runV (As := [.int (-1), .int (nI 100), .int (nI 0)]) (rest := []) ⟨hx, hb, hml, hown, hts⟩ (m_rcountA l G A (rT ρ) bd hF 100 0 (by decide) (by decide)) (cwV 3 hts gX8_droppedShare_X8_count rfl rfl rfl (by decide +kernel) ⟨Nat.le_of_ble_eq_true rfl, Nat.le_of_ble_eq_true rfl⟩) ⟨rR.blind, qrecv hC (hW.to rLV0) rfl, rR.pre hC hW⟩ rfl rfl hl.1 rfl (lv_room (Nat.le_of_ble_eq_true rfl)) dX8_droppedShare_34 ⟨Nat.le_of_ble_eq_true rfl, Nat.le_of_ble_eq_true rfl⟩) hS (fun _ h => h.elim) (fun locs hS => ?_)
    refine lv_i2f hx hb dX8_droppedShare_37 ?_
    refine lv_aload_n hx hb dX8_droppedShare_38 rfl (lv_at hl 0 rfl) ?_
    refine q_get (C := RX8) (T := TX8) (N := 36) hx hb hts iRX8 hown hC.1 (hW.to rLV0) rfl 2 (by decide) (hts (.fieldLink RX8 104 "LogWeaveModel" "lines" "I") (List.mem_of_getElem? (i := 2) (by decide +kernel))) rfl (v := .int (nI ((rT ρ) 0 0))) rfl dX8_droppedShare_39 ?_
    refine lv_i2f hx hb dX8_droppedShare_42 ?_
    refine lv_fdiv hx hb dX8_droppedShare_43 (rfl_fdiv _ (nI_ne0 (by omega) (by omega))) ?_
    exact W.fret hx hb hr (fun t ht _ => ⟨rfl, by rw [ht]; exact hW, hS.F ht⟩) hS.2.2 dX8_droppedShare_44
  · skip
    refine lv_iconst (v := nI 1) hx hb dX8_droppedShare_13 (by decide) ?_
    refine lv_goto (tgt := 18) hx hb dX8_droppedShare_14 (by decide) ?_
    refine lv_iconst (v := nI 1) hx hb dX8_droppedShare_18 (by decide) ?_
    omega
set_option maxHeartbeats 4000000 in
set_option maxRecDepth 100000 in
theorem x_rdroppedShare1 (l : Launch) (G : QG) (A : Nat → Prop) (ρ bd : QSt) (hF : rWF (rT ρ)) (h0 : (rT ρ) 0 0 = 0) : Met l yX8_droppedShare wsX8_droppedShare ({ frames := 1, cells := 0, slots := 0, locals := 22 } : Room) (rR G A ρ bd [.ref (bd 0 0)]) (qWV (some (.float FP.fconst0)) (rW G A (qup (rT ρ) 2 0 1) bd) A) 0 0 A := by
  refine Met.ofW (cc := cX8_droppedShare) (maxL := 1) (ret := (some .float)) (by decide) rfl ?_
  intro p e s m args below meth c s₁ B hml hv
  obtain ⟨rfl, hC, hW⟩ := hv
  have hx := B.exec
  have hb := B.bytes
  have hr := B.returns
  have hts := atoms_spec (ws := wsX8_droppedShare) B.pre
  have hown : s.vm.findClass RX8 = some m.cls := findClass_of_methodNamed B.named
  have hlocks := B.notSynchronized
  have hB := hF.1
  have hn := hF.n
  have hS : va_S A s.heap s.heap [] := va_S.rf
  have hl := lv_entry ([.ref (bd 0 0)]) (n := 1) (Nat.le_of_ble_eq_true rfl)
  rw [lg_entry_eq]
  generalize (lg_sl ([.ref (bd 0 0)]) ++ List.replicate (1 - (lg_sl ([.ref (bd 0 0)])).length) Slot.unset).toArray = ls at hl ⊢
  have hl : lv_has ls 1 [(0, .ref (bd 0 0))] := hl
  have iRX8 : ∀ w ∈ wsX80, w ∈ wsX8_droppedShare := by decide +kernel
  refine lv_aload_n hx hb dX8_droppedShare_0 rfl (lv_at hl 0 rfl) ?_
  refine lv_iconst (v := nI 0) hx hb dX8_droppedShare_1 (by decide) ?_
  refine q_put (C := RX8) (T := TX8) (N := 36) (ty := .int) (v := .int (nI 0)) hx hb hts iRX8 tyX8 tyX8_ok nmX8 hown hC.1 (hW.to rLV0) (hW.in rLV0) hS rfl 0 (by decide) (hts (.fieldLink RX8 100 "LogWeaveModel" "thrown" "I") (List.mem_of_getElem? (i := 1) (by decide +kernel))) rfl rfl (by decide +kernel) rfl rfl (Nat.le_of_ble_eq_true rfl) dX8_droppedShare_2 (fun H1 locs hat hsz hoq hS => ?_)
  have hW := hW.upR 2 0 0 rfl rLV0 ((rLV0 (ρ := (qup ρ 2 0 0))).trans (by rw [qup_s]; rfl)) hat hoq
  have hW : rW G A (rT ρ) bd _ := hW
  refine lv_aload_n hx hb dX8_droppedShare_5 rfl (lv_at hl 0 rfl) ?_
  refine lv_aload_n hx hb dX8_droppedShare_6 rfl (lv_at hl 0 rfl) ?_
  refine q_get (C := RX8) (T := TX8) (N := 36) hx hb hts iRX8 hown hC.1 (hW.to rLV0) rfl 2 (by decide) (hts (.fieldLink RX8 104 "LogWeaveModel" "lines" "I") (List.mem_of_getElem? (i := 2) (by decide +kernel))) rfl (v := .int (nI ((rT ρ) 0 0))) rfl dX8_droppedShare_7 ?_
  refine q_ne0 (tgt := 17) hx hb (q31 (hB _ _)) dX8_droppedShare_10 (by decide) (fun g1 => ?_) (fun g1 => ?_)
  · skip
    refine lv_iconst (v := nI 0) hx hb dX8_droppedShare_17 (by decide) ?_
    refine lv_iconst (v := nI 1) hx hb dX8_droppedShare_18 (by decide) ?_
    omega
  · skip
    refine lv_iconst (v := nI 1) hx hb dX8_droppedShare_13 (by decide) ?_
    refine lv_goto (tgt := 18) hx hb dX8_droppedShare_14 (by decide) ?_
    refine lv_iconst (v := nI 1) hx hb dX8_droppedShare_18 (by decide) ?_
    refine q_wv (va_runV (As := [.int (nI 1), .int (nI 1)]) (rest := []) ⟨hx, hb, hml, hown, hts⟩ (m_rfails1 l G A (rT ρ) bd hF 1 (by decide) (by decide) (rT_0 ρ)) (cwV 2 hts gX8_droppedShare_X8_fails rfl rfl rfl (by decide +kernel) ⟨Nat.le_of_ble_eq_true rfl, Nat.le_of_ble_eq_true rfl⟩) ⟨rR.blind, qrecv hC (hW.to rLV0) rfl, rR.pre hC hW⟩ rfl rfl hl.1 rfl (lv_room (Nat.le_of_ble_eq_true rfl)) dX8_droppedShare_19 ⟨Nat.le_of_ble_eq_true rfl, Nat.le_of_ble_eq_true rfl⟩) hS (fun _ h => h) (fun _ h => h) (fun H1 locs hW hz hk hS => ?_)
    refine q_eq0 (tgt := 29) hx hb (by decide) dX8_droppedShare_22 (by decide) (fun g2 => (by omega)) (fun g2 => ?_)
    refine lv_fconst0 hx hb dX8_droppedShare_25 ?_
    refine lv_goto (tgt := 44) hx hb dX8_droppedShare_26 (by decide) ?_
    exact W.fret hx hb hr (fun t ht _ => ⟨rfl, by rw [ht]; exact hW, hS.F ht⟩) hS.2.2 dX8_droppedShare_44
set_option maxHeartbeats 4000000 in
set_option maxRecDepth 100000 in
theorem m_rmeanRank (l : Launch) (G : QG) (A : Nat → Prop) (ρ bd : QSt) (hF : rWF (rT ρ)) (h0 : 0 < (qsum (fun l => qB ((rT ρ) 69 l = 107 ∧ 0 ≤ (rT ρ) 65 l)) ((rT ρ) 0 0))) : Met l yX8_meanRank wsX8_meanRank ({ frames := 1, cells := 0, slots := 0, locals := 25 } : Room) (rR G A ρ bd [.ref (bd 0 0)]) (qWV (some (.double (FP.ddiv (FP.i2d (nI (qsum (fun l => if (rT ρ) 69 l = 107 then (rT ρ) 65 l else 0) ((rT ρ) 0 0)))) (FP.i2d (nI (qsum (fun l => qB ((rT ρ) 69 l = 107 ∧ 0 ≤ (rT ρ) 65 l)) ((rT ρ) 0 0))))))) (rW G A (rT ρ) bd) A) 0 0 A := by
  refine Met.ofW (cc := cX8_meanRank) (maxL := 3) (ret := (some .double)) (by decide) rfl ?_
  intro p e s m args below meth c s₁ B hml hv
  obtain ⟨rfl, hC, hW⟩ := hv
  have hx := B.exec
  have hb := B.bytes
  have hr := B.returns
  have hts := atoms_spec (ws := wsX8_meanRank) B.pre
  have hown : s.vm.findClass RX8 = some m.cls := findClass_of_methodNamed B.named
  have hlocks := B.notSynchronized
  have hB := hF.1
  have hn := hF.n
  have hS : va_S A s.heap s.heap [] := va_S.rf
  have hl := lv_entry ([.ref (bd 0 0)]) (n := 3) (Nat.le_of_ble_eq_true rfl)
  rw [lg_entry_eq]
  generalize (lg_sl ([.ref (bd 0 0)]) ++ List.replicate (3 - (lg_sl ([.ref (bd 0 0)])).length) Slot.unset).toArray = ls at hl ⊢
  have hl : lv_has ls 3 [(0, .ref (bd 0 0))] := hl
  have iRX8 : ∀ w ∈ wsX80, w ∈ wsX8_meanRank := by decide +kernel
  refine lv_aload_n hx hb dX8_meanRank_0 rfl (lv_at hl 0 rfl) ?_
  refine lv_iconst (v := nI 0) hx hb dX8_meanRank_1 (by decide) ?_
  refine q_put (C := RX8) (T := TX8) (N := 36) (ty := .int) (v := .int (nI 0)) hx hb hts iRX8 tyX8 tyX8_ok nmX8 hown hC.1 (hW.to rLV0) (hW.in rLV0) hS rfl 0 (by decide) (hts (.fieldLink RX8 100 "LogWeaveModel" "thrown" "I") (List.mem_of_getElem? (i := 1) (by decide +kernel))) rfl rfl (by decide +kernel) rfl rfl (Nat.le_of_ble_eq_true rfl) dX8_meanRank_2 (fun H1 locs hat hsz hoq hS => ?_)
  have hW := hW.upR 2 0 0 rfl rLV0 ((rLV0 (ρ := (qup ρ 2 0 0))).trans (by rw [qup_s]; rfl)) hat hoq
  have hW : rW G A (rT ρ) bd _ := hW
  have hk9 : (qsum (fun l => qB ((rT ρ) 69 l = 107 ∧ 0 ≤ (rT ρ) 65 l)) ((rT ρ) 0 0)) ≤ 200 := Nat.le_trans (qsum_bound (b := 1) _ (fun l _ => qB_le)) (by omega)
  refine lv_iconst (v := nI 0) hx hb dX8_meanRank_5 (by decide) ?_
  refine lv_istore_n (lv' := [(1, .int (nI 0)), (0, .ref (bd 0 0))]) hx hb dX8_meanRank_6 rfl hl (by decide) rfl (fun ls hl => ?_)
  refine lv_iconst (v := nI 0) hx hb dX8_meanRank_7 (by decide) ?_
  refine lv_istore_n (lv' := [(2, .int (nI 0)), (1, .int (nI 0)), (0, .ref (bd 0 0))]) hx hb dX8_meanRank_8 rfl hl (by decide) rfl (fun ls hl => ?_)
  refine q_up ((rT ρ) 0 0) (fun i H locs ls => rW G A (rT ρ) bd H ∧ va_S A s.heap H locs ∧ ∃ (u : Nat), (u = qsum (fun l => if (rT ρ) 69 l = 107 then (rT ρ) 65 l else 0) i) ∧ lv_has ls 3 [(0, .ref (bd 0 0)), (1, .int (nI u)), (2, .int (nI i))]) ?_ ?_ (i0 := 0) (Nat.zero_le _) ⟨hW, hS, 0, rfl, lv_sub hl [2, 1, 0] rfl⟩
  · rintro H locs ls ⟨hW, hS, u, e_u, hl⟩
    refine lv_iload_n hx hb dX8_meanRank_9 rfl (lv_at hl 2 rfl) ?_
    refine lv_aload_n hx hb dX8_meanRank_10 rfl (lv_at hl 0 rfl) ?_
    refine q_get (C := RX8) (T := TX8) (N := 36) hx hb hts iRX8 hown hC.1 (hW.to rLV0) rfl 2 (by decide) (hts (.fieldLink RX8 104 "LogWeaveModel" "lines" "I") (List.mem_of_getElem? (i := 2) (by decide +kernel))) rfl (v := .int (nI ((rT ρ) 0 0))) rfl dX8_meanRank_11 ?_
    refine q_ge (tgt := 47) hx hb (q31 (hB _ _)) (q31 (hB _ _)) dX8_meanRank_14 (by decide) (fun g1 => ?_) (fun g1 => (by omega))
    refine lv_aload_n hx hb dX8_meanRank_47 rfl (lv_at hl 0 rfl) ?_
    refine lv_iconst (v := -1) hx hb dX8_meanRank_48 (by decide) ?_
    refine lv_bipush (v := nI 107) hx hb dX8_meanRank_49 (by decide) ?_
    refine lv_iconst (v := nI 0) hx hb dX8_meanRank_51 (by decide) ?_
    refine q_v (va_runV (As := [.int (-1), .int (nI 107), .int (nI 0)]) (rest := []) ⟨hx, hb, hml, hown, hts⟩ (m_rcountA l G A (rT ρ) bd hF 107 0 (by decide) (by decide)) (cwV 3 hts gX8_meanRank_X8_count rfl rfl rfl (by decide +kernel) ⟨Nat.le_of_ble_eq_true rfl, Nat.le_of_ble_eq_true rfl⟩) ⟨rR.blind, qrecv hC (hW.to rLV0) rfl, rR.pre hC hW⟩ rfl rfl hl.1 rfl (lv_room (Nat.le_of_ble_eq_true rfl)) dX8_meanRank_52 ⟨Nat.le_of_ble_eq_true rfl, Nat.le_of_ble_eq_true rfl⟩) hS (fun _ h => h.elim) (fun locs hS => ?_)
    refine lv_istore_n (lv' := [(2, .int (nI (qsum (fun l => qB ((rT ρ) 69 l = 107 ∧ 0 ≤ (rT ρ) 65 l)) ((rT ρ) 0 0)))), (0, .ref (bd 0 0)), (1, .int (nI u))]) hx hb dX8_meanRank_55 rfl hl (by decide) rfl (fun ls hl => ?_)
    refine lv_aload_n hx hb dX8_meanRank_56 rfl (lv_at hl 1 rfl) ?_
    refine lv_iload_n hx hb dX8_meanRank_57 rfl (lv_at hl 0 rfl) ?_
    refine q_ne0 (tgt := 65) hx hb (by omega) dX8_meanRank_58 (by decide) (fun g2 => ?_) (fun g2 => ?_)
    · skip
      refine lv_iconst (v := nI 0) hx hb dX8_meanRank_65 (by decide) ?_
      refine lv_iconst (v := nI 1) hx hb dX8_meanRank_66 (by decide) ?_
      refine q_v (va_runV (As := [.int (nI 0), .int (nI 1)]) (rest := []) ⟨hx, hb, hml, hown, hts⟩ (m_rfails0 l G A (rT ρ) bd hF 1 (rT_0 ρ)) (cwV 2 hts gX8_meanRank_X8_fails rfl rfl rfl (by decide +kernel) ⟨Nat.le_of_ble_eq_true rfl, Nat.le_of_ble_eq_true rfl⟩) ⟨rR.blind, qrecv hC (hW.to rLV0) rfl, rR.pre hC hW⟩ rfl rfl hl.1 rfl (lv_room (Nat.le_of_ble_eq_true rfl)) dX8_meanRank_67 ⟨Nat.le_of_ble_eq_true rfl, Nat.le_of_ble_eq_true rfl⟩) hS (fun _ h => h.elim) (fun locs hS => ?_)
      refine q_eq0 (tgt := 77) hx hb (by decide) dX8_meanRank_70 (by decide) (fun g3 => ?_) (fun g3 => (by omega))
      refine lv_iload_n hx hb dX8_meanRank_77 rfl (lv_at hl 2 rfl) ?_
      refine lv_i2d hx hb dX8_meanRank_78 ?_
      refine lv_iload_n hx hb dX8_meanRank_79 rfl (lv_at hl 0 rfl) ?_
      refine lv_i2d hx hb dX8_meanRank_80 ?_
      refine lv_ddiv hx hb dX8_meanRank_81 (rfl_ddiv _ (nI_ne0 (by omega) (by omega))) ?_
      exact W.dret hx hb hr (fun t ht _ => ⟨by rw [e_u], by rw [ht]; exact hW, hS.F ht⟩) hS.2.2 dX8_meanRank_82
    · skip
      refine lv_iconst (v := nI 1) hx hb dX8_meanRank_61 (by decide) ?_
      refine lv_goto (tgt := 66) hx hb dX8_meanRank_62 (by decide) ?_
      refine lv_iconst (v := nI 1) hx hb dX8_meanRank_66 (by decide) ?_
      omega
  · rintro i H locs ls hi ⟨hW, hS, u, e_u, hl⟩ ih
    refine lv_iload_n hx hb dX8_meanRank_9 rfl (lv_at hl 2 rfl) ?_
    refine lv_aload_n hx hb dX8_meanRank_10 rfl (lv_at hl 0 rfl) ?_
    refine q_get (C := RX8) (T := TX8) (N := 36) hx hb hts iRX8 hown hC.1 (hW.to rLV0) rfl 2 (by decide) (hts (.fieldLink RX8 104 "LogWeaveModel" "lines" "I") (List.mem_of_getElem? (i := 2) (by decide +kernel))) rfl (v := .int (nI ((rT ρ) 0 0))) rfl dX8_meanRank_11 ?_
    refine q_ge (tgt := 47) hx hb (by omega) (q31 (hB _ _)) dX8_meanRank_14 (by decide) (fun g4 => (by omega)) (fun g4 => ?_)
    refine lv_iload_n hx hb dX8_meanRank_17 rfl (lv_at hl 1 rfl) ?_
    refine lv_aload_n hx hb dX8_meanRank_18 rfl (lv_at hl 0 rfl) ?_
    refine q_get (C := RX8) (T := TX8) (N := 36) hx hb hts iRX8 hown hC.1 (hW.to rLV0) rfl 8 (by decide) (hts (.fieldLink RX8 25 "LogWeaveModel" "state" "[C") (List.mem_of_getElem? (i := 3) (by decide +kernel))) rfl (v := .ref (bd 6 0)) rfl dX8_meanRank_19 ?_
    refine lv_iload_n hx hb dX8_meanRank_22 rfl (lv_at hl 2 rfl) ?_
    refine r_cald hx hb hC.1 (hW.to rLV6) 3 rfl (i := i) (by omega) (by decide) (v := nI ((rT ρ) 69 i)) rfl dX8_meanRank_23 ?_
    refine lv_bipush (v := nI 107) hx hb dX8_meanRank_24 (by decide) ?_
    refine q_ne (tgt := 38) hx hb (q31 (hB _ _)) (by decide) dX8_meanRank_26 (by decide) (fun g5 => ?_) (fun g5 => ?_)
    · skip
      refine lv_iconst (v := nI 0) hx hb dX8_meanRank_38 (by decide) ?_
      refine lv_iadd hx hb dX8_meanRank_39 ?_
      refine q_ti (nI_add u 0) ?_
      refine lv_istore_n (lv' := [(1, .int (nI (u + 0))), (0, .ref (bd 0 0)), (2, .int (nI i))]) hx hb dX8_meanRank_40 rfl hl (by decide) rfl (fun ls hl => ?_)
      refine lv_iinc (v := nI (i + 1)) (lv' := [(2, .int (nI (i + 1))), (1, .int (nI (u + 0))), (0, .ref (bd 0 0))]) hx hb dX8_meanRank_41 hl (k := 2) rfl (nI_1 i) (by decide) rfl (fun ls hl => ?_)
      refine lv_goto (tgt := 9) hx hb dX8_meanRank_44 (by decide) ?_
      exact ih _ _ ls ⟨hW, hS, (u + 0), by rw [e_u, qsum]; have h2 : (rT ρ) 69 i = 107 → (if (rT ρ) 69 i = 107 then (rT ρ) 65 i else 0) = (rT ρ) 65 i := fun z => if_pos z; have h3 : ¬ (rT ρ) 69 i = 107 → (if (rT ρ) 69 i = 107 then (rT ρ) 65 i else 0) = 0 := fun z => if_neg z; omega, lv_sub hl [2, 1, 0] rfl⟩
    · skip
      refine lv_aload_n hx hb dX8_meanRank_29 rfl (lv_at hl 0 rfl) ?_
      refine q_get (C := RX8) (T := TX8) (N := 36) hx hb hts iRX8 hown hC.1 (hW.to rLV0) rfl 4 (by decide) (hts (.fieldLink RX8 13 "LogWeaveModel" "rank" "[I") (List.mem_of_getElem? (i := 4) (by decide +kernel))) rfl (v := .ref (bd 2 0)) rfl dX8_meanRank_30 ?_
      refine lv_iload_n hx hb dX8_meanRank_33 rfl (lv_at hl 2 rfl) ?_
      refine r_iald hx hb hC.1 (hW.to rLV2) 1 rfl (i := i) (by omega) (by decide) (v := nI ((rT ρ) 65 i)) rfl dX8_meanRank_34 ?_
      refine lv_goto (tgt := 39) hx hb dX8_meanRank_35 (by decide) ?_
      refine lv_iadd hx hb dX8_meanRank_39 ?_
      refine q_ti (nI_add u ((rT ρ) 65 i)) ?_
      refine lv_istore_n (lv' := [(1, .int (nI (u + ((rT ρ) 65 i)))), (0, .ref (bd 0 0)), (2, .int (nI i))]) hx hb dX8_meanRank_40 rfl hl (by decide) rfl (fun ls hl => ?_)
      refine lv_iinc (v := nI (i + 1)) (lv' := [(2, .int (nI (i + 1))), (1, .int (nI (u + ((rT ρ) 65 i)))), (0, .ref (bd 0 0))]) hx hb dX8_meanRank_41 hl (k := 2) rfl (nI_1 i) (by decide) rfl (fun ls hl => ?_)
      refine lv_goto (tgt := 9) hx hb dX8_meanRank_44 (by decide) ?_
      exact ih _ _ ls ⟨hW, hS, (u + ((rT ρ) 65 i)), by rw [e_u, qsum]; have h2 : (rT ρ) 69 i = 107 → (if (rT ρ) 69 i = 107 then (rT ρ) 65 i else 0) = (rT ρ) 65 i := fun z => if_pos z; have h3 : ¬ (rT ρ) 69 i = 107 → (if (rT ρ) 69 i = 107 then (rT ρ) 65 i else 0) = 0 := fun z => if_neg z; omega, lv_sub hl [2, 1, 0] rfl⟩
set_option maxHeartbeats 4000000 in
set_option maxRecDepth 100000 in
theorem x_rmeanRank1 (l : Launch) (G : QG) (A : Nat → Prop) (ρ bd : QSt) (hF : rWF (rT ρ)) (h0 : (qsum (fun l => qB ((rT ρ) 69 l = 107 ∧ 0 ≤ (rT ρ) 65 l)) ((rT ρ) 0 0)) = 0) : Met l yX8_meanRank wsX8_meanRank ({ frames := 1, cells := 0, slots := 0, locals := 25 } : Room) (rR G A ρ bd [.ref (bd 0 0)]) (qWV (some (.double FP.dconst0)) (rW G A (qup (rT ρ) 2 0 1) bd) A) 0 0 A := by
  refine Met.ofW (cc := cX8_meanRank) (maxL := 3) (ret := (some .double)) (by decide) rfl ?_
  intro p e s m args below meth c s₁ B hml hv
  obtain ⟨rfl, hC, hW⟩ := hv
  have hx := B.exec
  have hb := B.bytes
  have hr := B.returns
  have hts := atoms_spec (ws := wsX8_meanRank) B.pre
  have hown : s.vm.findClass RX8 = some m.cls := findClass_of_methodNamed B.named
  have hlocks := B.notSynchronized
  have hB := hF.1
  have hn := hF.n
  have hS : va_S A s.heap s.heap [] := va_S.rf
  have hl := lv_entry ([.ref (bd 0 0)]) (n := 3) (Nat.le_of_ble_eq_true rfl)
  rw [lg_entry_eq]
  generalize (lg_sl ([.ref (bd 0 0)]) ++ List.replicate (3 - (lg_sl ([.ref (bd 0 0)])).length) Slot.unset).toArray = ls at hl ⊢
  have hl : lv_has ls 3 [(0, .ref (bd 0 0))] := hl
  have iRX8 : ∀ w ∈ wsX80, w ∈ wsX8_meanRank := by decide +kernel
  refine lv_aload_n hx hb dX8_meanRank_0 rfl (lv_at hl 0 rfl) ?_
  refine lv_iconst (v := nI 0) hx hb dX8_meanRank_1 (by decide) ?_
  refine q_put (C := RX8) (T := TX8) (N := 36) (ty := .int) (v := .int (nI 0)) hx hb hts iRX8 tyX8 tyX8_ok nmX8 hown hC.1 (hW.to rLV0) (hW.in rLV0) hS rfl 0 (by decide) (hts (.fieldLink RX8 100 "LogWeaveModel" "thrown" "I") (List.mem_of_getElem? (i := 1) (by decide +kernel))) rfl rfl (by decide +kernel) rfl rfl (Nat.le_of_ble_eq_true rfl) dX8_meanRank_2 (fun H1 locs hat hsz hoq hS => ?_)
  have hW := hW.upR 2 0 0 rfl rLV0 ((rLV0 (ρ := (qup ρ 2 0 0))).trans (by rw [qup_s]; rfl)) hat hoq
  have hW : rW G A (rT ρ) bd _ := hW
  have hk9 : (qsum (fun l => qB ((rT ρ) 69 l = 107 ∧ 0 ≤ (rT ρ) 65 l)) ((rT ρ) 0 0)) ≤ 200 := Nat.le_trans (qsum_bound (b := 1) _ (fun l _ => qB_le)) (by omega)
  refine lv_iconst (v := nI 0) hx hb dX8_meanRank_5 (by decide) ?_
  refine lv_istore_n (lv' := [(1, .int (nI 0)), (0, .ref (bd 0 0))]) hx hb dX8_meanRank_6 rfl hl (by decide) rfl (fun ls hl => ?_)
  refine lv_iconst (v := nI 0) hx hb dX8_meanRank_7 (by decide) ?_
  refine lv_istore_n (lv' := [(2, .int (nI 0)), (1, .int (nI 0)), (0, .ref (bd 0 0))]) hx hb dX8_meanRank_8 rfl hl (by decide) rfl (fun ls hl => ?_)
  refine q_up ((rT ρ) 0 0) (fun i H locs ls => rW G A (rT ρ) bd H ∧ va_S A s.heap H locs ∧ ∃ (u : Nat), (u = qsum (fun l => if (rT ρ) 69 l = 107 then (rT ρ) 65 l else 0) i) ∧ lv_has ls 3 [(0, .ref (bd 0 0)), (1, .int (nI u)), (2, .int (nI i))]) ?_ ?_ (i0 := 0) (Nat.zero_le _) ⟨hW, hS, 0, rfl, lv_sub hl [2, 1, 0] rfl⟩
  · rintro H locs ls ⟨hW, hS, u, e_u, hl⟩
    refine lv_iload_n hx hb dX8_meanRank_9 rfl (lv_at hl 2 rfl) ?_
    refine lv_aload_n hx hb dX8_meanRank_10 rfl (lv_at hl 0 rfl) ?_
    refine q_get (C := RX8) (T := TX8) (N := 36) hx hb hts iRX8 hown hC.1 (hW.to rLV0) rfl 2 (by decide) (hts (.fieldLink RX8 104 "LogWeaveModel" "lines" "I") (List.mem_of_getElem? (i := 2) (by decide +kernel))) rfl (v := .int (nI ((rT ρ) 0 0))) rfl dX8_meanRank_11 ?_
    refine q_ge (tgt := 47) hx hb (q31 (hB _ _)) (q31 (hB _ _)) dX8_meanRank_14 (by decide) (fun g1 => ?_) (fun g1 => (by omega))
    refine lv_aload_n hx hb dX8_meanRank_47 rfl (lv_at hl 0 rfl) ?_
    refine lv_iconst (v := -1) hx hb dX8_meanRank_48 (by decide) ?_
    refine lv_bipush (v := nI 107) hx hb dX8_meanRank_49 (by decide) ?_
    refine lv_iconst (v := nI 0) hx hb dX8_meanRank_51 (by decide) ?_
    refine q_v (va_runV (As := [.int (-1), .int (nI 107), .int (nI 0)]) (rest := []) ⟨hx, hb, hml, hown, hts⟩ (m_rcountA l G A (rT ρ) bd hF 107 0 (by decide) (by decide)) (cwV 3 hts gX8_meanRank_X8_count rfl rfl rfl (by decide +kernel) ⟨Nat.le_of_ble_eq_true rfl, Nat.le_of_ble_eq_true rfl⟩) ⟨rR.blind, qrecv hC (hW.to rLV0) rfl, rR.pre hC hW⟩ rfl rfl hl.1 rfl (lv_room (Nat.le_of_ble_eq_true rfl)) dX8_meanRank_52 ⟨Nat.le_of_ble_eq_true rfl, Nat.le_of_ble_eq_true rfl⟩) hS (fun _ h => h.elim) (fun locs hS => ?_)
    refine lv_istore_n (lv' := [(2, .int (nI (qsum (fun l => qB ((rT ρ) 69 l = 107 ∧ 0 ≤ (rT ρ) 65 l)) ((rT ρ) 0 0)))), (0, .ref (bd 0 0)), (1, .int (nI u))]) hx hb dX8_meanRank_55 rfl hl (by decide) rfl (fun ls hl => ?_)
    refine lv_aload_n hx hb dX8_meanRank_56 rfl (lv_at hl 1 rfl) ?_
    refine lv_iload_n hx hb dX8_meanRank_57 rfl (lv_at hl 0 rfl) ?_
    refine q_ne0 (tgt := 65) hx hb (by omega) dX8_meanRank_58 (by decide) (fun g2 => ?_) (fun g2 => ?_)
    · skip
      refine lv_iconst (v := nI 0) hx hb dX8_meanRank_65 (by decide) ?_
      refine lv_iconst (v := nI 1) hx hb dX8_meanRank_66 (by decide) ?_
      omega
    · skip
      refine lv_iconst (v := nI 1) hx hb dX8_meanRank_61 (by decide) ?_
      refine lv_goto (tgt := 66) hx hb dX8_meanRank_62 (by decide) ?_
      refine lv_iconst (v := nI 1) hx hb dX8_meanRank_66 (by decide) ?_
      refine q_wv (va_runV (As := [.int (nI 1), .int (nI 1)]) (rest := []) ⟨hx, hb, hml, hown, hts⟩ (m_rfails1 l G A (rT ρ) bd hF 1 (by decide) (by decide) (rT_0 ρ)) (cwV 2 hts gX8_meanRank_X8_fails rfl rfl rfl (by decide +kernel) ⟨Nat.le_of_ble_eq_true rfl, Nat.le_of_ble_eq_true rfl⟩) ⟨rR.blind, qrecv hC (hW.to rLV0) rfl, rR.pre hC hW⟩ rfl rfl hl.1 rfl (lv_room (Nat.le_of_ble_eq_true rfl)) dX8_meanRank_67 ⟨Nat.le_of_ble_eq_true rfl, Nat.le_of_ble_eq_true rfl⟩) hS (fun _ h => h) (fun _ h => h) (fun H1 locs hW hz hk hS => ?_)
      refine q_eq0 (tgt := 77) hx hb (by decide) dX8_meanRank_70 (by decide) (fun g3 => (by omega)) (fun g3 => ?_)
      refine lv_dconst0 hx hb dX8_meanRank_73 ?_
      refine lv_goto (tgt := 82) hx hb dX8_meanRank_74 (by decide) ?_
      exact W.dret hx hb hr (fun t ht _ => ⟨rfl, by rw [ht]; exact hW, hS.F ht⟩) hS.2.2 dX8_meanRank_82
  · rintro i H locs ls hi ⟨hW, hS, u, e_u, hl⟩ ih
    refine lv_iload_n hx hb dX8_meanRank_9 rfl (lv_at hl 2 rfl) ?_
    refine lv_aload_n hx hb dX8_meanRank_10 rfl (lv_at hl 0 rfl) ?_
    refine q_get (C := RX8) (T := TX8) (N := 36) hx hb hts iRX8 hown hC.1 (hW.to rLV0) rfl 2 (by decide) (hts (.fieldLink RX8 104 "LogWeaveModel" "lines" "I") (List.mem_of_getElem? (i := 2) (by decide +kernel))) rfl (v := .int (nI ((rT ρ) 0 0))) rfl dX8_meanRank_11 ?_
    refine q_ge (tgt := 47) hx hb (by omega) (q31 (hB _ _)) dX8_meanRank_14 (by decide) (fun g4 => (by omega)) (fun g4 => ?_)
    refine lv_iload_n hx hb dX8_meanRank_17 rfl (lv_at hl 1 rfl) ?_
    refine lv_aload_n hx hb dX8_meanRank_18 rfl (lv_at hl 0 rfl) ?_
    refine q_get (C := RX8) (T := TX8) (N := 36) hx hb hts iRX8 hown hC.1 (hW.to rLV0) rfl 8 (by decide) (hts (.fieldLink RX8 25 "LogWeaveModel" "state" "[C") (List.mem_of_getElem? (i := 3) (by decide +kernel))) rfl (v := .ref (bd 6 0)) rfl dX8_meanRank_19 ?_
    refine lv_iload_n hx hb dX8_meanRank_22 rfl (lv_at hl 2 rfl) ?_
    refine r_cald hx hb hC.1 (hW.to rLV6) 3 rfl (i := i) (by omega) (by decide) (v := nI ((rT ρ) 69 i)) rfl dX8_meanRank_23 ?_
    refine lv_bipush (v := nI 107) hx hb dX8_meanRank_24 (by decide) ?_
    refine q_ne (tgt := 38) hx hb (q31 (hB _ _)) (by decide) dX8_meanRank_26 (by decide) (fun g5 => ?_) (fun g5 => ?_)
    · skip
      refine lv_iconst (v := nI 0) hx hb dX8_meanRank_38 (by decide) ?_
      refine lv_iadd hx hb dX8_meanRank_39 ?_
      refine q_ti (nI_add u 0) ?_
      refine lv_istore_n (lv' := [(1, .int (nI (u + 0))), (0, .ref (bd 0 0)), (2, .int (nI i))]) hx hb dX8_meanRank_40 rfl hl (by decide) rfl (fun ls hl => ?_)
      refine lv_iinc (v := nI (i + 1)) (lv' := [(2, .int (nI (i + 1))), (1, .int (nI (u + 0))), (0, .ref (bd 0 0))]) hx hb dX8_meanRank_41 hl (k := 2) rfl (nI_1 i) (by decide) rfl (fun ls hl => ?_)
      refine lv_goto (tgt := 9) hx hb dX8_meanRank_44 (by decide) ?_
      exact ih _ _ ls ⟨hW, hS, (u + 0), by rw [e_u, qsum]; have h2 : (rT ρ) 69 i = 107 → (if (rT ρ) 69 i = 107 then (rT ρ) 65 i else 0) = (rT ρ) 65 i := fun z => if_pos z; have h3 : ¬ (rT ρ) 69 i = 107 → (if (rT ρ) 69 i = 107 then (rT ρ) 65 i else 0) = 0 := fun z => if_neg z; omega, lv_sub hl [2, 1, 0] rfl⟩
    · skip
      refine lv_aload_n hx hb dX8_meanRank_29 rfl (lv_at hl 0 rfl) ?_
      refine q_get (C := RX8) (T := TX8) (N := 36) hx hb hts iRX8 hown hC.1 (hW.to rLV0) rfl 4 (by decide) (hts (.fieldLink RX8 13 "LogWeaveModel" "rank" "[I") (List.mem_of_getElem? (i := 4) (by decide +kernel))) rfl (v := .ref (bd 2 0)) rfl dX8_meanRank_30 ?_
      refine lv_iload_n hx hb dX8_meanRank_33 rfl (lv_at hl 2 rfl) ?_
      refine r_iald hx hb hC.1 (hW.to rLV2) 1 rfl (i := i) (by omega) (by decide) (v := nI ((rT ρ) 65 i)) rfl dX8_meanRank_34 ?_
      refine lv_goto (tgt := 39) hx hb dX8_meanRank_35 (by decide) ?_
      refine lv_iadd hx hb dX8_meanRank_39 ?_
      refine q_ti (nI_add u ((rT ρ) 65 i)) ?_
      refine lv_istore_n (lv' := [(1, .int (nI (u + ((rT ρ) 65 i)))), (0, .ref (bd 0 0)), (2, .int (nI i))]) hx hb dX8_meanRank_40 rfl hl (by decide) rfl (fun ls hl => ?_)
      refine lv_iinc (v := nI (i + 1)) (lv' := [(2, .int (nI (i + 1))), (1, .int (nI (u + ((rT ρ) 65 i)))), (0, .ref (bd 0 0))]) hx hb dX8_meanRank_41 hl (k := 2) rfl (nI_1 i) (by decide) rfl (fun ls hl => ?_)
      refine lv_goto (tgt := 9) hx hb dX8_meanRank_44 (by decide) ?_
      exact ih _ _ ls ⟨hW, hS, (u + ((rT ρ) 65 i)), by rw [e_u, qsum]; have h2 : (rT ρ) 69 i = 107 → (if (rT ρ) 69 i = 107 then (rT ρ) 65 i else 0) = (rT ρ) 65 i := fun z => if_pos z; have h3 : ¬ (rT ρ) 69 i = 107 → (if (rT ρ) 69 i = 107 then (rT ρ) 65 i else 0) = 0 := fun z => if_neg z; omega, lv_sub hl [2, 1, 0] rfl⟩
