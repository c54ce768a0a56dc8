/-- the state behind 'thrown = 0' -/
def rT (ρ : QSt) : QSt := qup ρ 2 0 0
theorem rT_0 (ρ : QSt) : rT ρ 2 0 = 0 := qup_s _ _ _ _
theorem rT_r {ρ : QSt} {r j : Nat} (h : r ≠ 2) : rT ρ r j = ρ r j := qup_k h
theorem rT_wf {ρ : QSt} (h : rWF ρ) : rWF (rT ρ) := h.up 2 0 0 (by decide) (by decide)
theorem r_inp {P : Nat} (h : P ≤ 3) : qB (-1 ≤ nI P - 1 ∧ nI P - 1 ≤ nI 2) = 1 := by
  rcases (show P = 0 ∨ P = 1 ∨ P = 2 ∨ P = 3 by omega) with rfl | rfl | rfl | rfl <;> decide
theorem r_nchar : ∀ x, x < 128 → narrow .char (.int (nI x)) = .int (nI x) := by decide +kernel

set_option maxHeartbeats 4000000 in
set_option maxRecDepth 100000 in
theorem m_rlines (l : Launch) (G : QG) (A : Nat → Prop) (ρ bd : QSt) (hF : rWF (rT ρ))  : Met l yX8_lines wsX8_lines ({ frames := 0, cells := 0, slots := 0, locals := 0 } : Room) (rR G A ρ bd [.ref (bd 0 0)]) (qWV (some (.int (nI ((rT ρ) 0 0)))) (rW G A (rT ρ) bd) A) 0 0 A := by
  refine Met.ofW (cc := cX8_lines) (maxL := 1) (ret := (some .int)) (by decide) rfl ?_
  intro p e s m args below meth c s₁ B hml hv
  obtain ⟨rfl, hC, hW⟩ := hv
  have hx := B.exec
  have hb := B.bytes
  have hr := B.returns
  have hts := atoms_spec (ws := wsX8_lines) B.pre
  have hown : s.vm.findClass RX8 = some m.cls := findClass_of_methodNamed B.named
  have hlocks := B.notSynchronized
  have hB := hF.1
  have hn := hF.n
  have hS : va_S A s.heap s.heap [] := va_S.rf
  have hl := lv_entry ([.ref (bd 0 0)]) (n := 1) (Nat.le_of_ble_eq_true rfl)
  rw [lg_entry_eq]
  generalize (lg_sl ([.ref (bd 0 0)]) ++ List.replicate (1 - (lg_sl ([.ref (bd 0 0)])).length) Slot.unset).toArray = ls at hl ⊢
  have hl : lv_has ls 1 [(0, .ref (bd 0 0))] := hl
  have iRX8 : ∀ w ∈ wsX80, w ∈ wsX8_lines := by decide +kernel
  refine lv_aload_n hx hb dX8_lines_0 rfl (lv_at hl 0 rfl) ?_
  refine lv_iconst (v := nI 0) hx hb dX8_lines_1 (by decide) ?_
  refine q_put (C := RX8) (T := TX8) (N := 36) (ty := .int) (v := .int (nI 0)) hx hb hts iRX8 tyX8 tyX8_ok nmX8 hown hC.1 (hW.to rLV0) (hW.in rLV0) hS rfl 0 (by decide) (hts (.fieldLink RX8 100 "LogWeaveModel" "thrown" "I") (List.mem_of_getElem? (i := 1) (by decide +kernel))) rfl rfl (by decide +kernel) rfl rfl (Nat.le_of_ble_eq_true rfl) dX8_lines_2 (fun H1 locs hat hsz hoq hS => ?_)
  have hW := hW.upR 2 0 0 rfl rLV0 ((rLV0 (ρ := (qup ρ 2 0 0))).trans (by rw [qup_s]; rfl)) hat hoq
  have hW : rW G A (rT ρ) bd _ := hW
  refine lv_aload_n hx hb dX8_lines_5 rfl (lv_at hl 0 rfl) ?_
  refine q_get (C := RX8) (T := TX8) (N := 36) hx hb hts iRX8 hown hC.1 (hW.to rLV0) rfl 2 (by decide) (hts (.fieldLink RX8 104 "LogWeaveModel" "lines" "I") (List.mem_of_getElem? (i := 2) (by decide +kernel))) rfl (v := .int (nI ((rT ρ) 0 0))) rfl dX8_lines_6 ?_
  exact W.iret hx hb hr (fun t ht _ => ⟨rfl, by rw [ht]; exact hW, hS.F ht⟩) hS.2.2 dX8_lines_9
set_option maxHeartbeats 4000000 in
set_option maxRecDepth 100000 in
theorem m_rfirings (l : Launch) (G : QG) (A : Nat → Prop) (ρ bd : QSt) (hF : rWF (rT ρ))  : Met l yX8_firings wsX8_firings ({ frames := 0, cells := 0, slots := 0, locals := 0 } : Room) (rR G A ρ bd [.ref (bd 0 0)]) (qWV (some (.int (nI ((rT ρ) 0 3)))) (rW G A (rT ρ) bd) A) 0 0 A := by
  refine Met.ofW (cc := cX8_firings) (maxL := 1) (ret := (some .int)) (by decide) rfl ?_
  intro p e s m args below meth c s₁ B hml hv
  obtain ⟨rfl, hC, hW⟩ := hv
  have hx := B.exec
  have hb := B.bytes
  have hr := B.returns
  have hts := atoms_spec (ws := wsX8_firings) B.pre
  have hown : s.vm.findClass RX8 = some m.cls := findClass_of_methodNamed B.named
  have hlocks := B.notSynchronized
  have hB := hF.1
  have hn := hF.n
  have hS : va_S A s.heap s.heap [] := va_S.rf
  have hl := lv_entry ([.ref (bd 0 0)]) (n := 1) (Nat.le_of_ble_eq_true rfl)
  rw [lg_entry_eq]
  generalize (lg_sl ([.ref (bd 0 0)]) ++ List.replicate (1 - (lg_sl ([.ref (bd 0 0)])).length) Slot.unset).toArray = ls at hl ⊢
  have hl : lv_has ls 1 [(0, .ref (bd 0 0))] := hl
  have iRX8 : ∀ w ∈ wsX80, w ∈ wsX8_firings := by decide +kernel
  refine lv_aload_n hx hb dX8_firings_0 rfl (lv_at hl 0 rfl) ?_
  refine lv_iconst (v := nI 0) hx hb dX8_firings_1 (by decide) ?_
  refine q_put (C := RX8) (T := TX8) (N := 36) (ty := .int) (v := .int (nI 0)) hx hb hts iRX8 tyX8 tyX8_ok nmX8 hown hC.1 (hW.to rLV0) (hW.in rLV0) hS rfl 0 (by decide) (hts (.fieldLink RX8 100 "LogWeaveModel" "thrown" "I") (List.mem_of_getElem? (i := 1) (by decide +kernel))) rfl rfl (by decide +kernel) rfl rfl (Nat.le_of_ble_eq_true rfl) dX8_firings_2 (fun H1 locs hat hsz hoq hS => ?_)
  have hW := hW.upR 2 0 0 rfl rLV0 ((rLV0 (ρ := (qup ρ 2 0 0))).trans (by rw [qup_s]; rfl)) hat hoq
  have hW : rW G A (rT ρ) bd _ := hW
  refine lv_aload_n hx hb dX8_firings_5 rfl (lv_at hl 0 rfl) ?_
  refine q_get (C := RX8) (T := TX8) (N := 36) hx hb hts iRX8 hown hC.1 (hW.to rLV0) rfl 25 (by decide) (hts (.fieldLink RX8 117 "LogWeaveModel" "firings" "I") (List.mem_of_getElem? (i := 2) (by decide +kernel))) rfl (v := .int (nI ((rT ρ) 0 3))) rfl dX8_firings_6 ?_
  exact W.iret hx hb hr (fun t ht _ => ⟨rfl, by rw [ht]; exact hW, hS.F ht⟩) hS.2.2 dX8_firings_9
set_option maxHeartbeats 4000000 in
set_option maxRecDepth 100000 in
theorem m_rtick (l : Launch) (G : QG) (A : Nat → Prop) (ρ bd : QSt) (hF : rWF (rT ρ))  : Met l yX8_tick wsX8_tick ({ frames := 0, cells := 0, slots := 0, locals := 0 } : Room) (rR G A ρ bd [.ref (bd 0 0)]) (qWV (some (.int (nI ((rT ρ) 1 0)))) (rW G A (rT ρ) bd) A) 0 0 A := by
  refine Met.ofW (cc := cX8_tick) (maxL := 1) (ret := (some .int)) (by decide) rfl ?_
  intro p e s m args below meth c s₁ B hml hv
  obtain ⟨rfl, hC, hW⟩ := hv
  have hx := B.exec
  have hb := B.bytes
  have hr := B.returns
  have hts := atoms_spec (ws := wsX8_tick) B.pre
  have hown : s.vm.findClass RX8 = some m.cls := findClass_of_methodNamed B.named
  have hlocks := B.notSynchronized
  have hB := hF.1
  have hn := hF.n
  have hS : va_S A s.heap s.heap [] := va_S.rf
  have hl := lv_entry ([.ref (bd 0 0)]) (n := 1) (Nat.le_of_ble_eq_true rfl)
  rw [lg_entry_eq]
  generalize (lg_sl ([.ref (bd 0 0)]) ++ List.replicate (1 - (lg_sl ([.ref (bd 0 0)])).length) Slot.unset).toArray = ls at hl ⊢
  have hl : lv_has ls 1 [(0, .ref (bd 0 0))] := hl
  have iRX8 : ∀ w ∈ wsX80, w ∈ wsX8_tick := by decide +kernel
  refine lv_aload_n hx hb dX8_tick_0 rfl (lv_at hl 0 rfl) ?_
  refine lv_iconst (v := nI 0) hx hb dX8_tick_1 (by decide) ?_
  refine q_put (C := RX8) (T := TX8) (N := 36) (ty := .int) (v := .int (nI 0)) hx hb hts iRX8 tyX8 tyX8_ok nmX8 hown hC.1 (hW.to rLV0) (hW.in rLV0) hS rfl 0 (by decide) (hts (.fieldLink RX8 100 "LogWeaveModel" "thrown" "I") (List.mem_of_getElem? (i := 1) (by decide +kernel))) rfl rfl (by decide +kernel) rfl rfl (Nat.le_of_ble_eq_true rfl) dX8_tick_2 (fun H1 locs hat hsz hoq hS => ?_)
  have hW := hW.upR 2 0 0 rfl rLV0 ((rLV0 (ρ := (qup ρ 2 0 0))).trans (by rw [qup_s]; rfl)) hat hoq
  have hW : rW G A (rT ρ) bd _ := hW
  refine lv_aload_n hx hb dX8_tick_5 rfl (lv_at hl 0 rfl) ?_
  refine q_get (C := RX8) (T := TX8) (N := 36) hx hb hts iRX8 hown hC.1 (hW.to rLV0) rfl 1 (by decide) (hts (.fieldLink RX8 132 "LogWeaveModel" "tick" "I") (List.mem_of_getElem? (i := 2) (by decide +kernel))) rfl (v := .int (nI ((rT ρ) 1 0))) rfl dX8_tick_6 ?_
  exact W.iret hx hb hr (fun t ht _ => ⟨rfl, by rw [ht]; exact hW, hS.F ht⟩) hS.2.2 dX8_tick_9
set_option maxHeartbeats 4000000 in
set_option maxRecDepth 100000 in
theorem m_rstateOf (l : Launch) (G : QG) (A : Nat → Prop) (ρ bd : QSt) (hF : rWF (rT ρ)) (i : Nat) (hi : i < (rT ρ) 0 0) (hc : (rT ρ) 69 i < 128) : Met l yX8_stateOf wsX8_stateOf ({ frames := 2, cells := 0, slots := 0, locals := 43 } : Room) (rR G A ρ bd [.ref (bd 0 0), .int (nI i)]) (qWV (some (.int (nI ((rT ρ) 69 i)))) (rW G A (rT ρ) bd) A) 0 0 A := by
  refine Met.ofW (cc := cX8_stateOf) (maxL := 2) (ret := (some .char)) (by decide) rfl ?_
  intro p e s m args below meth c s₁ B hml hv
  obtain ⟨rfl, hC, hW⟩ := hv
  have hx := B.exec
  have hb := B.bytes
  have hr := B.returns
  have hts := atoms_spec (ws := wsX8_stateOf) B.pre
  have hown : s.vm.findClass RX8 = some m.cls := findClass_of_methodNamed B.named
  have hlocks := B.notSynchronized
  have hB := hF.1
  have hn := hF.n
  have hS : va_S A s.heap s.heap [] := va_S.rf
  have hl := lv_entry ([.ref (bd 0 0), .int (nI i)]) (n := 2) (Nat.le_of_ble_eq_true rfl)
  rw [lg_entry_eq]
  generalize (lg_sl ([.ref (bd 0 0), .int (nI i)]) ++ List.replicate (2 - (lg_sl ([.ref (bd 0 0), .int (nI i)])).length) Slot.unset).toArray = ls at hl ⊢
  have hl : lv_has ls 2 [(0, .ref (bd 0 0)), (1, .int (nI i))] := hl
  have iRX8 : ∀ w ∈ wsX80, w ∈ wsX8_stateOf := by decide +kernel
  refine lv_aload_n hx hb dX8_stateOf_0 rfl (lv_at hl 0 rfl) ?_
  refine lv_iconst (v := nI 0) hx hb dX8_stateOf_1 (by decide) ?_
  refine q_put (C := RX8) (T := TX8) (N := 36) (ty := .int) (v := .int (nI 0)) hx hb hts iRX8 tyX8 tyX8_ok nmX8 hown hC.1 (hW.to rLV0) (hW.in rLV0) hS rfl 0 (by decide) (hts (.fieldLink RX8 100 "LogWeaveModel" "thrown" "I") (List.mem_of_getElem? (i := 1) (by decide +kernel))) rfl rfl (by decide +kernel) rfl rfl (Nat.le_of_ble_eq_true rfl) dX8_stateOf_2 (fun H1 locs hat hsz hoq hS => ?_)
  have hW := hW.upR 2 0 0 rfl rLV0 ((rLV0 (ρ := (qup ρ 2 0 0))).trans (by rw [qup_s]; rfl)) hat hoq
  have hW : rW G A (rT ρ) bd _ := hW
  refine lv_aload_n hx hb dX8_stateOf_5 rfl (lv_at hl 0 rfl) ?_
  refine lv_aload_n hx hb dX8_stateOf_6 rfl (lv_at hl 0 rfl) ?_
  refine lv_iload_n hx hb dX8_stateOf_7 rfl (lv_at hl 1 rfl) ?_
  refine q_v (va_runV (As := [.int (nI i)]) (rest := [.ref (bd 0 0)]) ⟨hx, hb, hml, hown, hts⟩ (m_rnoLine0 l G A (rT ρ) bd hF i hi) (cwV 1 hts gX8_stateOf_X8_noLine rfl rfl rfl (by decide +kernel) ⟨Nat.le_of_ble_eq_true rfl, Nat.le_of_ble_eq_true rfl⟩) ⟨rR.blind, qrecv hC (hW.to rLV0) rfl, rR.pre hC hW⟩ rfl rfl hl.1 rfl (lv_room (Nat.le_of_ble_eq_true rfl)) dX8_stateOf_8 ⟨Nat.le_of_ble_eq_true rfl, Nat.le_of_ble_eq_true rfl⟩) hS (fun _ h => h.elim) (fun locs hS => ?_)
  refine lv_iconst (v := nI 1) hx hb dX8_stateOf_11 (by decide) ?_
  refine q_v (va_runV (As := [.int (nI 0), .int (nI 1)]) (rest := []) ⟨hx, hb, hml, hown, hts⟩ (m_rfails0 l G A (rT ρ) bd hF 1 (rT_0 ρ)) (cwV 2 hts gX8_stateOf_X8_fails rfl rfl rfl (by decide +kernel) ⟨Nat.le_of_ble_eq_true rfl, Nat.le_of_ble_eq_true rfl⟩) ⟨rR.blind, qrecv hC (hW.to rLV0) rfl, rR.pre hC hW⟩ rfl rfl hl.1 rfl (lv_room (Nat.le_of_ble_eq_true rfl)) dX8_stateOf_12 ⟨Nat.le_of_ble_eq_true rfl, Nat.le_of_ble_eq_true rfl⟩) hS (fun _ h => h.elim) (fun locs hS => ?_)
  refine q_eq0 (tgt := 22) hx hb (by decide) dX8_stateOf_15 (by decide) (fun g1 => ?_) (fun g1 => (by omega))
  refine lv_aload_n hx hb dX8_stateOf_22 rfl (lv_at hl 0 rfl) ?_
  refine q_get (C := RX8) (T := TX8) (N := 36) hx hb hts iRX8 hown hC.1 (hW.to rLV0) rfl 8 (by decide) (hts (.fieldLink RX8 25 "LogWeaveModel" "state" "[C") (List.mem_of_getElem? (i := 2) (by decide +kernel))) rfl (v := .ref (bd 6 0)) rfl dX8_stateOf_23 ?_
  refine lv_iload_n hx hb dX8_stateOf_26 rfl (lv_at hl 1 rfl) ?_
  refine r_cald hx hb hC.1 (hW.to rLV6) 3 rfl (i := i) (by omega) (by decide) (v := nI ((rT ρ) 69 i)) rfl dX8_stateOf_27 ?_
  exact W.zret hx hb hr (r_nchar _ hc) (fun t ht _ => ⟨rfl, by rw [ht]; exact hW, hS.F ht⟩) hS.2.2 dX8_stateOf_28
set_option maxHeartbeats 4000000 in
set_option maxRecDepth 100000 in
theorem m_rpatternOf (l : Launch) (G : QG) (A : Nat → Prop) (ρ bd : QSt) (hF : rWF (rT ρ)) (i : Nat) (hi : i < (rT ρ) 0 0) : Met l yX8_patternOf wsX8_patternOf ({ frames := 2, cells := 0, slots := 0, locals := 43 } : Room) (rR G A ρ bd [.ref (bd 0 0), .int (nI i)]) (qWV (some (.int (nI ((rT ρ) 68 i)))) (rW G A (rT ρ) bd) A) 0 0 A := by
  refine Met.ofW (cc := cX8_patternOf) (maxL := 2) (ret := (some .int)) (by decide) rfl ?_
  intro p e s m args below meth c s₁ B hml hv
  obtain ⟨rfl, hC, hW⟩ := hv
  have hx := B.exec
  have hb := B.bytes
  have hr := B.returns
  have hts := atoms_spec (ws := wsX8_patternOf) B.pre
  have hown : s.vm.findClass RX8 = some m.cls := findClass_of_methodNamed B.named
  have hlocks := B.notSynchronized
  have hB := hF.1
  have hn := hF.n
  have hS : va_S A s.heap s.heap [] := va_S.rf
  have hl := lv_entry ([.ref (bd 0 0), .int (nI i)]) (n := 2) (Nat.le_of_ble_eq_true rfl)
  rw [lg_entry_eq]
  generalize (lg_sl ([.ref (bd 0 0), .int (nI i)]) ++ List.replicate (2 - (lg_sl ([.ref (bd 0 0), .int (nI i)])).length) Slot.unset).toArray = ls at hl ⊢
  have hl : lv_has ls 2 [(0, .ref (bd 0 0)), (1, .int (nI i))] := hl
  have iRX8 : ∀ w ∈ wsX80, w ∈ wsX8_patternOf := by decide +kernel
  refine lv_aload_n hx hb dX8_patternOf_0 rfl (lv_at hl 0 rfl) ?_
  refine lv_iconst (v := nI 0) hx hb dX8_patternOf_1 (by decide) ?_
  refine q_put (C := RX8) (T := TX8) (N := 36) (ty := .int) (v := .int (nI 0)) hx hb hts iRX8 tyX8 tyX8_ok nmX8 hown hC.1 (hW.to rLV0) (hW.in rLV0) hS rfl 0 (by decide) (hts (.fieldLink RX8 100 "LogWeaveModel" "thrown" "I") (List.mem_of_getElem? (i := 1) (by decide +kernel))) rfl rfl (by decide +kernel) rfl rfl (Nat.le_of_ble_eq_true rfl) dX8_patternOf_2 (fun H1 locs hat hsz hoq hS => ?_)
  have hW := hW.upR 2 0 0 rfl rLV0 ((rLV0 (ρ := (qup ρ 2 0 0))).trans (by rw [qup_s]; rfl)) hat hoq
  have hW : rW G A (rT ρ) bd _ := hW
  refine lv_aload_n hx hb dX8_patternOf_5 rfl (lv_at hl 0 rfl) ?_
  refine lv_aload_n hx hb dX8_patternOf_6 rfl (lv_at hl 0 rfl) ?_
  refine lv_iload_n hx hb dX8_patternOf_7 rfl (lv_at hl 1 rfl) ?_
  refine q_v (va_runV (As := [.int (nI i)]) (rest := [.ref (bd 0 0)]) ⟨hx, hb, hml, hown, hts⟩ (m_rnoLine0 l G A (rT ρ) bd hF i hi) (cwV 1 hts gX8_patternOf_X8_noLine rfl rfl rfl (by decide +kernel) ⟨Nat.le_of_ble_eq_true rfl, Nat.le_of_ble_eq_true rfl⟩) ⟨rR.blind, qrecv hC (hW.to rLV0) rfl, rR.pre hC hW⟩ rfl rfl hl.1 rfl (lv_room (Nat.le_of_ble_eq_true rfl)) dX8_patternOf_8 ⟨Nat.le_of_ble_eq_true rfl, Nat.le_of_ble_eq_true rfl⟩) hS (fun _ h => h.elim) (fun locs hS => ?_)
  refine lv_iconst (v := nI 1) hx hb dX8_patternOf_11 (by decide) ?_
  refine q_v (va_runV (As := [.int (nI 0), .int (nI 1)]) (rest := []) ⟨hx, hb, hml, hown, hts⟩ (m_rfails0 l G A (rT ρ) bd hF 1 (rT_0 ρ)) (cwV 2 hts gX8_patternOf_X8_fails rfl rfl rfl (by decide +kernel) ⟨Nat.le_of_ble_eq_true rfl, Nat.le_of_ble_eq_true rfl⟩) ⟨rR.blind, qrecv hC (hW.to rLV0) rfl, rR.pre hC hW⟩ rfl rfl hl.1 rfl (lv_room (Nat.le_of_ble_eq_true rfl)) dX8_patternOf_12 ⟨Nat.le_of_ble_eq_true rfl, Nat.le_of_ble_eq_true rfl⟩) hS (fun _ h => h.elim) (fun locs hS => ?_)
  refine q_eq0 (tgt := 22) hx hb (by decide) dX8_patternOf_15 (by decide) (fun g1 => ?_) (fun g1 => (by omega))
  refine lv_aload_n hx hb dX8_patternOf_22 rfl (lv_at hl 0 rfl) ?_
  refine q_get (C := RX8) (T := TX8) (N := 36) hx hb hts iRX8 hown hC.1 (hW.to rLV0) rfl 9 (by decide) (hts (.fieldLink RX8 29 "LogWeaveModel" "pattern" "[I") (List.mem_of_getElem? (i := 2) (by decide +kernel))) rfl (v := .ref (bd 7 0)) rfl dX8_patternOf_23 ?_
  refine lv_iload_n hx hb dX8_patternOf_26 rfl (lv_at hl 1 rfl) ?_
  refine r_iald hx hb hC.1 (hW.to rLV7) 1 rfl (i := i) (by omega) (by decide) (v := nI ((rT ρ) 68 i)) rfl dX8_patternOf_27 ?_
  exact W.iret hx hb hr (fun t ht _ => ⟨rfl, by rw [ht]; exact hW, hS.F ht⟩) hS.2.2 dX8_patternOf_28
set_option maxHeartbeats 4000000 in
set_option maxRecDepth 100000 in
theorem m_ralertState (l : Launch) (G : QG) (A : Nat → Prop) (ρ bd : QSt) (hF : rWF (rT ρ)) (i : Nat) (hi : i < (rT ρ) 0 2) (hc : (rT ρ) 131 i < 128) : Met l yX8_alertState wsX8_alertState ({ frames := 2, cells := 0, slots := 0, locals := 43 } : Room) (rR G A ρ bd [.ref (bd 0 0), .int (nI i)]) (qWV (some (.int (nI ((rT ρ) 131 i)))) (rW G A (rT ρ) bd) A) 0 0 A := by
  refine Met.ofW (cc := cX8_alertState) (maxL := 2) (ret := (some .char)) (by decide) rfl ?_
  intro p e s m args below meth c s₁ B hml hv
  obtain ⟨rfl, hC, hW⟩ := hv
  have hx := B.exec
  have hb := B.bytes
  have hr := B.returns
  have hts := atoms_spec (ws := wsX8_alertState) B.pre
  have hown : s.vm.findClass RX8 = some m.cls := findClass_of_methodNamed B.named
  have hlocks := B.notSynchronized
  have hB := hF.1
  have hn := hF.n
  have hS : va_S A s.heap s.heap [] := va_S.rf
  have hl := lv_entry ([.ref (bd 0 0), .int (nI i)]) (n := 2) (Nat.le_of_ble_eq_true rfl)
  rw [lg_entry_eq]
  generalize (lg_sl ([.ref (bd 0 0), .int (nI i)]) ++ List.replicate (2 - (lg_sl ([.ref (bd 0 0), .int (nI i)])).length) Slot.unset).toArray = ls at hl ⊢
  have hl : lv_has ls 2 [(0, .ref (bd 0 0)), (1, .int (nI i))] := hl
  have iRX8 : ∀ w ∈ wsX80, w ∈ wsX8_alertState := by decide +kernel
  refine lv_aload_n hx hb dX8_alertState_0 rfl (lv_at hl 0 rfl) ?_
  refine lv_iconst (v := nI 0) hx hb dX8_alertState_1 (by decide) ?_
  refine q_put (C := RX8) (T := TX8) (N := 36) (ty := .int) (v := .int (nI 0)) hx hb hts iRX8 tyX8 tyX8_ok nmX8 hown hC.1 (hW.to rLV0) (hW.in rLV0) hS rfl 0 (by decide) (hts (.fieldLink RX8 100 "LogWeaveModel" "thrown" "I") (List.mem_of_getElem? (i := 1) (by decide +kernel))) rfl rfl (by decide +kernel) rfl rfl (Nat.le_of_ble_eq_true rfl) dX8_alertState_2 (fun H1 locs hat hsz hoq hS => ?_)
  have hW := hW.upR 2 0 0 rfl rLV0 ((rLV0 (ρ := (qup ρ 2 0 0))).trans (by rw [qup_s]; rfl)) hat hoq
  have hW : rW G A (rT ρ) bd _ := hW
  refine lv_aload_n hx hb dX8_alertState_5 rfl (lv_at hl 0 rfl) ?_
  refine lv_aload_n hx hb dX8_alertState_6 rfl (lv_at hl 0 rfl) ?_
  refine lv_iload_n hx hb dX8_alertState_7 rfl (lv_at hl 1 rfl) ?_
  refine q_v (va_runV (As := [.int (nI i)]) (rest := [.ref (bd 0 0)]) ⟨hx, hb, hml, hown, hts⟩ (m_rnoAlert0 l G A (rT ρ) bd hF i hi) (cwV 1 hts gX8_alertState_X8_noAlert rfl rfl rfl (by decide +kernel) ⟨Nat.le_of_ble_eq_true rfl, Nat.le_of_ble_eq_true rfl⟩) ⟨rR.blind, qrecv hC (hW.to rLV0) rfl, rR.pre hC hW⟩ rfl rfl hl.1 rfl (lv_room (Nat.le_of_ble_eq_true rfl)) dX8_alertState_8 ⟨Nat.le_of_ble_eq_true rfl, Nat.le_of_ble_eq_true rfl⟩) hS (fun _ h => h.elim) (fun locs hS => ?_)
  refine lv_iconst (v := nI 1) hx hb dX8_alertState_11 (by decide) ?_
  refine q_v (va_runV (As := [.int (nI 0), .int (nI 1)]) (rest := []) ⟨hx, hb, hml, hown, hts⟩ (m_rfails0 l G A (rT ρ) bd hF 1 (rT_0 ρ)) (cwV 2 hts gX8_alertState_X8_fails rfl rfl rfl (by decide +kernel) ⟨Nat.le_of_ble_eq_true rfl, Nat.le_of_ble_eq_true rfl⟩) ⟨rR.blind, qrecv hC (hW.to rLV0) rfl, rR.pre hC hW⟩ rfl rfl hl.1 rfl (lv_room (Nat.le_of_ble_eq_true rfl)) dX8_alertState_12 ⟨Nat.le_of_ble_eq_true rfl, Nat.le_of_ble_eq_true rfl⟩) hS (fun _ h => h.elim) (fun locs hS => ?_)
  refine q_eq0 (tgt := 22) hx hb (by decide) dX8_alertState_15 (by decide) (fun g1 => ?_) (fun g1 => (by omega))
  refine lv_aload_n hx hb dX8_alertState_22 rfl (lv_at hl 0 rfl) ?_
  refine q_get (C := RX8) (T := TX8) (N := 36) hx hb hts iRX8 hown hC.1 (hW.to rLV0) rfl 22 (by decide) (hts (.fieldLink RX8 63 "LogWeaveModel" "alert" "[C") (List.mem_of_getElem? (i := 2) (by decide +kernel))) rfl (v := .ref (bd 18 0)) rfl dX8_alertState_23 ?_
  refine lv_iload_n hx hb dX8_alertState_26 rfl (lv_at hl 1 rfl) ?_
  refine r_cald hx hb hC.1 (hW.to rLV18) 3 rfl (i := i) (by omega) (by decide) (v := nI ((rT ρ) 131 i)) rfl dX8_alertState_27 ?_
  exact W.zret hx hb hr (r_nchar _ hc) (fun t ht _ => ⟨rfl, by rw [ht]; exact hW, hS.F ht⟩) hS.2.2 dX8_alertState_28
set_option maxHeartbeats 4000000 in
set_option maxRecDepth 100000 in
theorem m_ralertOf (l : Launch) (G : QG) (A : Nat → Prop) (ρ bd : QSt) (hF : rWF (rT ρ)) (i : Nat) (hi : i < (rT ρ) 0 3) : Met l yX8_alertOf wsX8_alertOf ({ frames := 2, cells := 0, slots := 0, locals := 43 } : Room) (rR G A ρ bd [.ref (bd 0 0), .int (nI i)]) (qWV (some (.int (nI ((rT ρ) 160 i)))) (rW G A (rT ρ) bd) A) 0 0 A := by
  refine Met.ofW (cc := cX8_alertOf) (maxL := 2) (ret := (some .int)) (by decide) rfl ?_
  intro p e s m args below meth c s₁ B hml hv
  obtain ⟨rfl, hC, hW⟩ := hv
  have hx := B.exec
  have hb := B.bytes
  have hr := B.returns
  have hts := atoms_spec (ws := wsX8_alertOf) B.pre
  have hown : s.vm.findClass RX8 = some m.cls := findClass_of_methodNamed B.named
  have hlocks := B.notSynchronized
  have hB := hF.1
  have hn := hF.n
  have hS : va_S A s.heap s.heap [] := va_S.rf
  have hl := lv_entry ([.ref (bd 0 0), .int (nI i)]) (n := 2) (Nat.le_of_ble_eq_true rfl)
  rw [lg_entry_eq]
  generalize (lg_sl ([.ref (bd 0 0), .int (nI i)]) ++ List.replicate (2 - (lg_sl ([.ref (bd 0 0), .int (nI i)])).length) Slot.unset).toArray = ls at hl ⊢
  have hl : lv_has ls 2 [(0, .ref (bd 0 0)), (1, .int (nI i))] := hl
  have iRX8 : ∀ w ∈ wsX80, w ∈ wsX8_alertOf := by decide +kernel
  refine lv_aload_n hx hb dX8_alertOf_0 rfl (lv_at hl 0 rfl) ?_
  refine lv_iconst (v := nI 0) hx hb dX8_alertOf_1 (by decide) ?_
  refine q_put (C := RX8) (T := TX8) (N := 36) (ty := .int) (v := .int (nI 0)) hx hb hts iRX8 tyX8 tyX8_ok nmX8 hown hC.1 (hW.to rLV0) (hW.in rLV0) hS rfl 0 (by decide) (hts (.fieldLink RX8 100 "LogWeaveModel" "thrown" "I") (List.mem_of_getElem? (i := 1) (by decide +kernel))) rfl rfl (by decide +kernel) rfl rfl (Nat.le_of_ble_eq_true rfl) dX8_alertOf_2 (fun H1 locs hat hsz hoq hS => ?_)
  have hW := hW.upR 2 0 0 rfl rLV0 ((rLV0 (ρ := (qup ρ 2 0 0))).trans (by rw [qup_s]; rfl)) hat hoq
  have hW : rW G A (rT ρ) bd _ := hW
  refine lv_aload_n hx hb dX8_alertOf_5 rfl (lv_at hl 0 rfl) ?_
  refine lv_aload_n hx hb dX8_alertOf_6 rfl (lv_at hl 0 rfl) ?_
  refine lv_iload_n hx hb dX8_alertOf_7 rfl (lv_at hl 1 rfl) ?_
  refine q_v (va_runV (As := [.int (nI i)]) (rest := [.ref (bd 0 0)]) ⟨hx, hb, hml, hown, hts⟩ (m_rnoFiring0 l G A (rT ρ) bd hF i hi) (cwV 1 hts gX8_alertOf_X8_noFiring rfl rfl rfl (by decide +kernel) ⟨Nat.le_of_ble_eq_true rfl, Nat.le_of_ble_eq_true rfl⟩) ⟨rR.blind, qrecv hC (hW.to rLV0) rfl, rR.pre hC hW⟩ rfl rfl hl.1 rfl (lv_room (Nat.le_of_ble_eq_true rfl)) dX8_alertOf_8 ⟨Nat.le_of_ble_eq_true rfl, Nat.le_of_ble_eq_true rfl⟩) hS (fun _ h => h.elim) (fun locs hS => ?_)
  refine lv_iconst (v := nI 1) hx hb dX8_alertOf_11 (by decide) ?_
  refine q_v (va_runV (As := [.int (nI 0), .int (nI 1)]) (rest := []) ⟨hx, hb, hml, hown, hts⟩ (m_rfails0 l G A (rT ρ) bd hF 1 (rT_0 ρ)) (cwV 2 hts gX8_alertOf_X8_fails rfl rfl rfl (by decide +kernel) ⟨Nat.le_of_ble_eq_true rfl, Nat.le_of_ble_eq_true rfl⟩) ⟨rR.blind, qrecv hC (hW.to rLV0) rfl, rR.pre hC hW⟩ rfl rfl hl.1 rfl (lv_room (Nat.le_of_ble_eq_true rfl)) dX8_alertOf_12 ⟨Nat.le_of_ble_eq_true rfl, Nat.le_of_ble_eq_true rfl⟩) hS (fun _ h => h.elim) (fun locs hS => ?_)
  refine q_eq0 (tgt := 22) hx hb (by decide) dX8_alertOf_15 (by decide) (fun g1 => ?_) (fun g1 => (by omega))
  refine lv_aload_n hx hb dX8_alertOf_22 rfl (lv_at hl 0 rfl) ?_
  refine q_get (C := RX8) (T := TX8) (N := 36) hx hb hts iRX8 hown hC.1 (hW.to rLV0) rfl 26 (by decide) (hts (.fieldLink RX8 72 "LogWeaveModel" "alertOf" "[I") (List.mem_of_getElem? (i := 2) (by decide +kernel))) rfl (v := .ref (bd 21 0)) rfl dX8_alertOf_23 ?_
  refine lv_iload_n hx hb dX8_alertOf_26 rfl (lv_at hl 1 rfl) ?_
  refine r_iald hx hb hC.1 (hW.to rLV21) 1 rfl (i := i) (by omega) (by decide) (v := nI ((rT ρ) 160 i)) rfl dX8_alertOf_27 ?_
  exact W.iret hx hb hr (fun t ht _ => ⟨rfl, by rw [ht]; exact hW, hS.F ht⟩) hS.2.2 dX8_alertOf_28
set_option maxHeartbeats 4000000 in
set_option maxRecDepth 100000 in
theorem m_rfiredAt (l : Launch) (G : QG) (A : Nat → Prop) (ρ bd : QSt) (hF : rWF (rT ρ)) (i : Nat) (hi : i < (rT ρ) 0 3) : Met l yX8_firedAt wsX8_firedAt ({ frames := 2, cells := 0, slots := 0, locals := 43 } : Room) (rR G A ρ bd [.ref (bd 0 0), .int (nI i)]) (qWV (some (.int (nI ((rT ρ) 161 i)))) (rW G A (rT ρ) bd) A) 0 0 A := by
  refine Met.ofW (cc := cX8_firedAt) (maxL := 2) (ret := (some .int)) (by decide) rfl ?_
  intro p e s m args below meth c s₁ B hml hv
  obtain ⟨rfl, hC, hW⟩ := hv
  have hx := B.exec
  have hb := B.bytes
  have hr := B.returns
  have hts := atoms_spec (ws := wsX8_firedAt) B.pre
  have hown : s.vm.findClass RX8 = some m.cls := findClass_of_methodNamed B.named
  have hlocks := B.notSynchronized
  have hB := hF.1
  have hn := hF.n
  have hS : va_S A s.heap s.heap [] := va_S.rf
  have hl := lv_entry ([.ref (bd 0 0), .int (nI i)]) (n := 2) (Nat.le_of_ble_eq_true rfl)
  rw [lg_entry_eq]
  generalize (lg_sl ([.ref (bd 0 0), .int (nI i)]) ++ List.replicate (2 - (lg_sl ([.ref (bd 0 0), .int (nI i)])).length) Slot.unset).toArray = ls at hl ⊢
  have hl : lv_has ls 2 [(0, .ref (bd 0 0)), (1, .int (nI i))] := hl
  have iRX8 : ∀ w ∈ wsX80, w ∈ wsX8_firedAt := by decide +kernel
  refine lv_aload_n hx hb dX8_firedAt_0 rfl (lv_at hl 0 rfl) ?_
  refine lv_iconst (v := nI 0) hx hb dX8_firedAt_1 (by decide) ?_
  refine q_put (C := RX8) (T := TX8) (N := 36) (ty := .int) (v := .int (nI 0)) hx hb hts iRX8 tyX8 tyX8_ok nmX8 hown hC.1 (hW.to rLV0) (hW.in rLV0) hS rfl 0 (by decide) (hts (.fieldLink RX8 100 "LogWeaveModel" "thrown" "I") (List.mem_of_getElem? (i := 1) (by decide +kernel))) rfl rfl (by decide +kernel) rfl rfl (Nat.le_of_ble_eq_true rfl) dX8_firedAt_2 (fun H1 locs hat hsz hoq hS => ?_)
  have hW := hW.upR 2 0 0 rfl rLV0 ((rLV0 (ρ := (qup ρ 2 0 0))).trans (by rw [qup_s]; rfl)) hat hoq
  have hW : rW G A (rT ρ) bd _ := hW
  refine lv_aload_n hx hb dX8_firedAt_5 rfl (lv_at hl 0 rfl) ?_
  refine lv_aload_n hx hb dX8_firedAt_6 rfl (lv_at hl 0 rfl) ?_
  refine lv_iload_n hx hb dX8_firedAt_7 rfl (lv_at hl 1 rfl) ?_
  refine q_v (va_runV (As := [.int (nI i)]) (rest := [.ref (bd 0 0)]) ⟨hx, hb, hml, hown, hts⟩ (m_rnoFiring0 l G A (rT ρ) bd hF i hi) (cwV 1 hts gX8_firedAt_X8_noFiring rfl rfl rfl (by decide +kernel) ⟨Nat.le_of_ble_eq_true rfl, Nat.le_of_ble_eq_true rfl⟩) ⟨rR.blind, qrecv hC (hW.to rLV0) rfl, rR.pre hC hW⟩ rfl rfl hl.1 rfl (lv_room (Nat.le_of_ble_eq_true rfl)) dX8_firedAt_8 ⟨Nat.le_of_ble_eq_true rfl, Nat.le_of_ble_eq_true rfl⟩) hS (fun _ h => h.elim) (fun locs hS => ?_)
  refine lv_iconst (v := nI 1) hx hb dX8_firedAt_11 (by decide) ?_
  refine q_v (va_runV (As := [.int (nI 0), .int (nI 1)]) (rest := []) ⟨hx, hb, hml, hown, hts⟩ (m_rfails0 l G A (rT ρ) bd hF 1 (rT_0 ρ)) (cwV 2 hts gX8_firedAt_X8_fails rfl rfl rfl (by decide +kernel) ⟨Nat.le_of_ble_eq_true rfl, Nat.le_of_ble_eq_true rfl⟩) ⟨rR.blind, qrecv hC (hW.to rLV0) rfl, rR.pre hC hW⟩ rfl rfl hl.1 rfl (lv_room (Nat.le_of_ble_eq_true rfl)) dX8_firedAt_12 ⟨Nat.le_of_ble_eq_true rfl, Nat.le_of_ble_eq_true rfl⟩) hS (fun _ h => h.elim) (fun locs hS => ?_)
  refine q_eq0 (tgt := 22) hx hb (by decide) dX8_firedAt_15 (by decide) (fun g1 => ?_) (fun g1 => (by omega))
  refine lv_aload_n hx hb dX8_firedAt_22 rfl (lv_at hl 0 rfl) ?_
  refine q_get (C := RX8) (T := TX8) (N := 36) hx hb hts iRX8 hown hC.1 (hW.to rLV0) rfl 27 (by decide) (hts (.fieldLink RX8 75 "LogWeaveModel" "firedAt" "[I") (List.mem_of_getElem? (i := 2) (by decide +kernel))) rfl (v := .ref (bd 22 0)) rfl dX8_firedAt_23 ?_
  refine lv_iload_n hx hb dX8_firedAt_26 rfl (lv_at hl 1 rfl) ?_
  refine r_iald hx hb hC.1 (hW.to rLV22) 1 rfl (i := i) (by omega) (by decide) (v := nI ((rT ρ) 161 i)) rfl dX8_firedAt_27 ?_
  exact W.iret hx hb hr (fun t ht _ => ⟨rfl, by rw [ht]; exact hW, hS.F ht⟩) hS.2.2 dX8_firedAt_28
set_option maxHeartbeats 4000000 in
set_option maxRecDepth 100000 in
theorem m_rwordAt (l : Launch) (G : QG) (A : Nat → Prop) (ρ bd : QSt) (hF : rWF (rT ρ)) (p0 k : Nat) (hp : p0 < (rT ρ) 0 1) (hm : (rT ρ) 97 p0 = 0) (hk : k < 3) : Met l yX8_wordAt wsX8_wordAt ({ frames := 2, cells := 0, slots := 0, locals := 43 } : Room) (rR G A ρ bd [.ref (bd 0 0), .int (nI p0), .int (nI k)]) (qWV (some (.int (nI ((rT ρ) (112 + k) p0) - 1))) (rW G A (rT ρ) bd) A) 0 0 A := by
  refine Met.ofW (cc := cX8_wordAt) (maxL := 3) (ret := (some .int)) (by decide) rfl ?_
  intro p e s m args below meth c s₁ B hml hv
  obtain ⟨rfl, hC, hW⟩ := hv
  have hx := B.exec
  have hb := B.bytes
  have hr := B.returns
  have hts := atoms_spec (ws := wsX8_wordAt) B.pre
  have hown : s.vm.findClass RX8 = some m.cls := findClass_of_methodNamed B.named
  have hlocks := B.notSynchronized
  have hB := hF.1
  have hn := hF.n
  have hS : va_S A s.heap s.heap [] := va_S.rf
  have hl := lv_entry ([.ref (bd 0 0), .int (nI p0), .int (nI k)]) (n := 3) (Nat.le_of_ble_eq_true rfl)
  rw [lg_entry_eq]
  generalize (lg_sl ([.ref (bd 0 0), .int (nI p0), .int (nI k)]) ++ List.replicate (3 - (lg_sl ([.ref (bd 0 0), .int (nI p0), .int (nI k)])).length) Slot.unset).toArray = ls at hl ⊢
  have hl : lv_has ls 3 [(0, .ref (bd 0 0)), (1, .int (nI p0)), (2, .int (nI k))] := hl
  have iRX8 : ∀ w ∈ wsX80, w ∈ wsX8_wordAt := by decide +kernel
  refine lv_aload_n hx hb dX8_wordAt_0 rfl (lv_at hl 0 rfl) ?_
  refine lv_iconst (v := nI 0) hx hb dX8_wordAt_1 (by decide) ?_
  refine q_put (C := RX8) (T := TX8) (N := 36) (ty := .int) (v := .int (nI 0)) hx hb hts iRX8 tyX8 tyX8_ok nmX8 hown hC.1 (hW.to rLV0) (hW.in rLV0) hS rfl 0 (by decide) (hts (.fieldLink RX8 100 "LogWeaveModel" "thrown" "I") (List.mem_of_getElem? (i := 1) (by decide +kernel))) rfl rfl (by decide +kernel) rfl rfl (Nat.le_of_ble_eq_true rfl) dX8_wordAt_2 (fun H1 locs hat hsz hoq hS => ?_)
  have hW := hW.upR 2 0 0 rfl rLV0 ((rLV0 (ρ := (qup ρ 2 0 0))).trans (by rw [qup_s]; rfl)) hat hoq
  have hW : rW G A (rT ρ) bd _ := hW
  refine lv_aload_n hx hb dX8_wordAt_5 rfl (lv_at hl 0 rfl) ?_
  refine lv_aload_n hx hb dX8_wordAt_6 rfl (lv_at hl 0 rfl) ?_
  refine lv_iload_n hx hb dX8_wordAt_7 rfl (lv_at hl 1 rfl) ?_
  refine q_v (va_runV (As := [.int (nI p0)]) (rest := [.ref (bd 0 0)]) ⟨hx, hb, hml, hown, hts⟩ (m_rnoPattern0 l G A (rT ρ) bd hF p0 hp hm) (cwV 1 hts gX8_wordAt_X8_noPattern rfl rfl rfl (by decide +kernel) ⟨Nat.le_of_ble_eq_true rfl, Nat.le_of_ble_eq_true rfl⟩) ⟨rR.blind, qrecv hC (hW.to rLV0) rfl, rR.pre hC hW⟩ rfl rfl hl.1 rfl (lv_room (Nat.le_of_ble_eq_true rfl)) dX8_wordAt_8 ⟨Nat.le_of_ble_eq_true rfl, Nat.le_of_ble_eq_true rfl⟩) hS (fun _ h => h.elim) (fun locs hS => ?_)
  refine lv_iconst (v := nI 1) hx hb dX8_wordAt_11 (by decide) ?_
  refine q_v (va_runV (As := [.int (nI 0), .int (nI 1)]) (rest := []) ⟨hx, hb, hml, hown, hts⟩ (m_rfails0 l G A (rT ρ) bd hF 1 (rT_0 ρ)) (cwV 2 hts gX8_wordAt_X8_fails rfl rfl rfl (by decide +kernel) ⟨Nat.le_of_ble_eq_true rfl, Nat.le_of_ble_eq_true rfl⟩) ⟨rR.blind, qrecv hC (hW.to rLV0) rfl, rR.pre hC hW⟩ rfl rfl hl.1 rfl (lv_room (Nat.le_of_ble_eq_true rfl)) dX8_wordAt_12 ⟨Nat.le_of_ble_eq_true rfl, Nat.le_of_ble_eq_true rfl⟩) hS (fun _ h => h.elim) (fun locs hS => ?_)
  refine q_ne0 (tgt := 40) hx hb (by decide) dX8_wordAt_15 (by decide) (fun g1 => (by omega)) (fun g1 => ?_)
  refine lv_aload_n hx hb dX8_wordAt_18 rfl (lv_at hl 0 rfl) ?_
  refine lv_iload_n hx hb dX8_wordAt_19 rfl (lv_at hl 2 rfl) ?_
  refine lv_iconst (v := nI 0) hx hb dX8_wordAt_20 (by decide) ?_
  refine lv_iconst (v := nI 2) hx hb dX8_wordAt_21 (by decide) ?_
  refine q_v (va_runS (As := [.int (nI k), .int (nI 0), .int (nI 2)]) (rest := [.ref (bd 0 0)]) ⟨hx, hb, hml, hown, hts⟩ (m_rin l (nI k) (nI 0) (nI 2)) (va_cwS 3 hts gX8_wordAt_X8_in rfl rfl rfl (by decide +kernel) ⟨Nat.le_of_ble_eq_true rfl, Nat.le_of_ble_eq_true rfl⟩) ⟨qU.blind, qU.pre⟩ rfl rfl hl.1 rfl (lv_room (Nat.le_of_ble_eq_true rfl)) dX8_wordAt_22 ⟨Nat.le_of_ble_eq_true rfl, Nat.le_of_ble_eq_true rfl⟩) hS (fun _ h => h.elim) (fun locs hS => ?_)
  refine q_ti (y := nI 1) (by rw [qB_t ⟨nI_le (by omega) (by omega), nI_le (by omega) (by decide)⟩]) ?_
  refine q_ne0 (tgt := 32) hx hb (by decide) dX8_wordAt_25 (by decide) (fun g2 => ?_) (fun g2 => (by omega))
  refine lv_iconst (v := nI 0) hx hb dX8_wordAt_32 (by decide) ?_
  refine lv_iconst (v := nI 2) hx hb dX8_wordAt_33 (by decide) ?_
  refine q_v (va_runV (As := [.int (nI 0), .int (nI 2)]) (rest := []) ⟨hx, hb, hml, hown, hts⟩ (m_rfails0 l G A (rT ρ) bd hF 2 (rT_0 ρ)) (cwV 2 hts gX8_wordAt_X8_fails rfl rfl rfl (by decide +kernel) ⟨Nat.le_of_ble_eq_true rfl, Nat.le_of_ble_eq_true rfl⟩) ⟨rR.blind, qrecv hC (hW.to rLV0) rfl, rR.pre hC hW⟩ rfl rfl hl.1 rfl (lv_room (Nat.le_of_ble_eq_true rfl)) dX8_wordAt_34 ⟨Nat.le_of_ble_eq_true rfl, Nat.le_of_ble_eq_true rfl⟩) hS (fun _ h => h.elim) (fun locs hS => ?_)
  refine q_eq0 (tgt := 44) hx hb (by decide) dX8_wordAt_37 (by decide) (fun g3 => ?_) (fun g3 => (by omega))
  refine lv_aload_n hx hb dX8_wordAt_44 rfl (lv_at hl 0 rfl) ?_
  refine q_get (C := RX8) (T := TX8) (N := 36) hx hb hts iRX8 hown hC.1 (hW.to rLV0) rfl 12 (by decide) (hts (.fieldLink RX8 35 "LogWeaveModel" "part" "[I") (List.mem_of_getElem? (i := 2) (by decide +kernel))) rfl (v := .ref (bd 9 0)) rfl dX8_wordAt_45 ?_
  refine lv_iconst (v := nI 3) hx hb dX8_wordAt_48 (by decide) ?_
  refine lv_iload_n hx hb dX8_wordAt_49 rfl (lv_at hl 1 rfl) ?_
  refine lv_imul hx hb dX8_wordAt_50 ?_
  refine q_ti (pk_mul 3 p0) ?_
  refine lv_iload_n hx hb dX8_wordAt_51 rfl (lv_at hl 2 rfl) ?_
  refine lv_iadd hx hb dX8_wordAt_52 ?_
  refine q_ti (nI_add (3 * p0) k) ?_
  refine r_iald hx hb hC.1 (hW.to rLV9) 1 rfl (i := ((3 * p0) + k)) (by omega) (by decide) (v := nI ((rT ρ) (112 + k) p0) - 1) (by show nI ((rT ρ) (112 + ((3 * p0) + k) % 3) (((3 * p0) + k) / 3)) - 1 = _; rw [show ((3 * p0) + k) % 3 = k by omega, show ((3 * p0) + k) / 3 = p0 by omega]) dX8_wordAt_53 ?_
  exact W.iret hx hb hr (fun t ht _ => ⟨rfl, by rw [ht]; exact hW, hS.F ht⟩) hS.2.2 dX8_wordAt_54
set_option maxHeartbeats 4000000 in
set_option maxRecDepth 100000 in
theorem m_rpatterns (l : Launch) (G : QG) (A : Nat → Prop) (ρ bd : QSt) (hF : rWF (rT ρ)) (s0 : Nat) (hs0 : s0 < 4) : Met l yX8_patterns wsX8_patterns ({ frames := 2, cells := 0, slots := 0, locals := 42 } : Room) (rR G A ρ bd [.ref (bd 0 0), .int (nI s0)]) (qWV (some (.int (nI (qsum (fun l => qB ((rT ρ) 96 l = s0 ∧ (rT ρ) 97 l = 0)) ((rT ρ) 0 1))))) (rW G A (rT ρ) bd) A) 0 0 A := by
  refine Met.ofW (cc := cX8_patterns) (maxL := 4) (ret := (some .int)) (by decide) rfl ?_
  intro p e s m args below meth c s₁ B hml hv
  obtain ⟨rfl, hC, hW⟩ := hv
  have hx := B.exec
  have hb := B.bytes
  have hr := B.returns
  have hts := atoms_spec (ws := wsX8_patterns) B.pre
  have hown : s.vm.findClass RX8 = some m.cls := findClass_of_methodNamed B.named
  have hlocks := B.notSynchronized
  have hB := hF.1
  have hn := hF.n
  have hS : va_S A s.heap s.heap [] := va_S.rf
  have hl := lv_entry ([.ref (bd 0 0), .int (nI s0)]) (n := 4) (Nat.le_of_ble_eq_true rfl)
  rw [lg_entry_eq]
  generalize (lg_sl ([.ref (bd 0 0), .int (nI s0)]) ++ List.replicate (4 - (lg_sl ([.ref (bd 0 0), .int (nI s0)])).length) Slot.unset).toArray = ls at hl ⊢
  have hl : lv_has ls 4 [(0, .ref (bd 0 0)), (1, .int (nI s0))] := hl
  have iRX8 : ∀ w ∈ wsX80, w ∈ wsX8_patterns := by decide +kernel
  refine lv_aload_n hx hb dX8_patterns_0 rfl (lv_at hl 0 rfl) ?_
  refine lv_iconst (v := nI 0) hx hb dX8_patterns_1 (by decide) ?_
  refine q_put (C := RX8) (T := TX8) (N := 36) (ty := .int) (v := .int (nI 0)) hx hb hts iRX8 tyX8 tyX8_ok nmX8 hown hC.1 (hW.to rLV0) (hW.in rLV0) hS rfl 0 (by decide) (hts (.fieldLink RX8 100 "LogWeaveModel" "thrown" "I") (List.mem_of_getElem? (i := 1) (by decide +kernel))) rfl rfl (by decide +kernel) rfl rfl (Nat.le_of_ble_eq_true rfl) dX8_patterns_2 (fun H1 locs hat hsz hoq hS => ?_)
  have hW := hW.upR 2 0 0 rfl rLV0 ((rLV0 (ρ := (qup ρ 2 0 0))).trans (by rw [qup_s]; rfl)) hat hoq
  have hW : rW G A (rT ρ) bd _ := hW
  refine lv_aload_n hx hb dX8_patterns_5 rfl (lv_at hl 0 rfl) ?_
  refine lv_iload_n hx hb dX8_patterns_6 rfl (lv_at hl 1 rfl) ?_
  refine q_v (va_runS (As := [.int (nI s0)]) (rest := [.ref (bd 0 0)]) ⟨hx, hb, hml, hown, hts⟩ (m_risSource l (nI s0)) (va_cwS 1 hts gX8_patterns_X8_isSource rfl rfl rfl (by decide +kernel) ⟨Nat.le_of_ble_eq_true rfl, Nat.le_of_ble_eq_true rfl⟩) ⟨qU.blind, qU.pre⟩ rfl rfl hl.1 rfl (lv_room (Nat.le_of_ble_eq_true rfl)) dX8_patterns_7 ⟨Nat.le_of_ble_eq_true rfl, Nat.le_of_ble_eq_true rfl⟩) hS (fun _ h => h.elim) (fun locs hS => ?_)
  refine q_ti (y := nI 1) (by rw [qB_t ⟨nI_le (by omega) (by omega), nI_le (by omega) (by decide)⟩]) ?_
  refine q_ne0 (tgt := 17) hx hb (by decide) dX8_patterns_10 (by decide) (fun g1 => ?_) (fun g1 => (by omega))
  refine lv_iconst (v := nI 0) hx hb dX8_patterns_17 (by decide) ?_
  refine lv_iconst (v := nI 1) hx hb dX8_patterns_18 (by decide) ?_
  refine q_v (va_runV (As := [.int (nI 0), .int (nI 1)]) (rest := []) ⟨hx, hb, hml, hown, hts⟩ (m_rfails0 l G A (rT ρ) bd hF 1 (rT_0 ρ)) (cwV 2 hts gX8_patterns_X8_fails rfl rfl rfl (by decide +kernel) ⟨Nat.le_of_ble_eq_true rfl, Nat.le_of_ble_eq_true rfl⟩) ⟨rR.blind, qrecv hC (hW.to rLV0) rfl, rR.pre hC hW⟩ rfl rfl hl.1 rfl (lv_room (Nat.le_of_ble_eq_true rfl)) dX8_patterns_19 ⟨Nat.le_of_ble_eq_true rfl, Nat.le_of_ble_eq_true rfl⟩) hS (fun _ h => h.elim) (fun locs hS => ?_)
  refine q_eq0 (tgt := 27) hx hb (by decide) dX8_patterns_22 (by decide) (fun g2 => ?_) (fun g2 => (by omega))
  refine lv_iconst (v := nI 0) hx hb dX8_patterns_27 (by decide) ?_
  refine lv_istore_n (lv' := [(2, .int (nI 0)), (0, .ref (bd 0 0)), (1, .int (nI s0))]) hx hb dX8_patterns_28 rfl hl (by decide) rfl (fun ls hl => ?_)
  refine lv_iconst (v := nI 0) hx hb dX8_patterns_29 (by decide) ?_
  refine lv_istore_n (lv' := [(3, .int (nI 0)), (2, .int (nI 0)), (0, .ref (bd 0 0)), (1, .int (nI s0))]) hx hb dX8_patterns_30 rfl hl (by decide) rfl (fun ls hl => ?_)
  refine q_up ((rT ρ) 0 1) (fun i H locs ls => rW G A (rT ρ) bd H ∧ va_S A s.heap H locs ∧ ∃ (v : Nat), (v = qsum (fun l => qB ((rT ρ) 96 l = s0 ∧ (rT ρ) 97 l = 0)) i) ∧ lv_has ls 4 [(0, .ref (bd 0 0)), (1, .int (nI s0)), (2, .int (nI v)), (3, .int (nI i))]) ?_ ?_ (i0 := 0) (Nat.zero_le _) ⟨hW, hS, 0, rfl, lv_sub hl [2, 3, 1, 0] rfl⟩
  · rintro H locs ls ⟨hW, hS, v, e_v, hl⟩
    refine lv_iload_n hx hb dX8_patterns_31 rfl (lv_at hl 3 rfl) ?_
    refine lv_aload_n hx hb dX8_patterns_32 rfl (lv_at hl 0 rfl) ?_
    refine q_get (C := RX8) (T := TX8) (N := 36) hx hb hts iRX8 hown hC.1 (hW.to rLV0) rfl 10 (by decide) (hts (.fieldLink RX8 111 "LogWeaveModel" "patterns" "I") (List.mem_of_getElem? (i := 2) (by decide +kernel))) rfl (v := .int (nI ((rT ρ) 0 1))) rfl dX8_patterns_33 ?_
    refine q_ge (tgt := 72) hx hb (q31 (hB _ _)) (q31 (hB _ _)) dX8_patterns_36 (by decide) (fun g3 => ?_) (fun g3 => (by omega))
    refine lv_iload_n hx hb dX8_patterns_72 rfl (lv_at hl 2 rfl) ?_
    exact W.iret hx hb hr (fun t ht _ => ⟨by rw [e_v], by rw [ht]; exact hW, hS.F ht⟩) hS.2.2 dX8_patterns_73
  · rintro i H locs ls hi ⟨hW, hS, v, e_v, hl⟩ ih
    refine lv_iload_n hx hb dX8_patterns_31 rfl (lv_at hl 3 rfl) ?_
    refine lv_aload_n hx hb dX8_patterns_32 rfl (lv_at hl 0 rfl) ?_
    refine q_get (C := RX8) (T := TX8) (N := 36) hx hb hts iRX8 hown hC.1 (hW.to rLV0) rfl 10 (by decide) (hts (.fieldLink RX8 111 "LogWeaveModel" "patterns" "I") (List.mem_of_getElem? (i := 2) (by decide +kernel))) rfl (v := .int (nI ((rT ρ) 0 1))) rfl dX8_patterns_33 ?_
    refine q_ge (tgt := 72) hx hb (by omega) (q31 (hB _ _)) dX8_patterns_36 (by decide) (fun g4 => (by omega)) (fun g4 => ?_)
    refine lv_iload_n hx hb dX8_patterns_39 rfl (lv_at hl 2 rfl) ?_
    refine lv_aload_n hx hb dX8_patterns_40 rfl (lv_at hl 0 rfl) ?_
    refine q_get (C := RX8) (T := TX8) (N := 36) hx hb hts iRX8 hown hC.1 (hW.to rLV0) rfl 11 (by decide) (hts (.fieldLink RX8 32 "LogWeaveModel" "sourceOf" "[I") (List.mem_of_getElem? (i := 3) (by decide +kernel))) rfl (v := .ref (bd 8 0)) rfl dX8_patterns_41 ?_
    refine lv_iload_n hx hb dX8_patterns_44 rfl (lv_at hl 3 rfl) ?_
    refine r_iald hx hb hC.1 (hW.to rLV8) 1 rfl (i := i) (by omega) (by decide) (v := nI ((rT ρ) 96 i)) rfl dX8_patterns_45 ?_
    refine lv_iload_n hx hb dX8_patterns_46 rfl (lv_at hl 1 rfl) ?_
    refine q_ne (tgt := 63) hx hb (q31 (hB _ _)) (by omega) dX8_patterns_47 (by decide) (fun g5 => ?_) (fun g5 => ?_)
    · skip
      refine lv_iconst (v := nI 0) hx hb dX8_patterns_63 (by decide) ?_
      refine lv_iadd hx hb dX8_patterns_64 ?_
      refine q_ti (nI_add v 0) ?_
      refine lv_istore_n (lv' := [(2, .int (nI (v + 0))), (0, .ref (bd 0 0)), (1, .int (nI s0)), (3, .int (nI i))]) hx hb dX8_patterns_65 rfl hl (by decide) rfl (fun ls hl => ?_)
      refine lv_iinc (v := nI (i + 1)) (lv' := [(3, .int (nI (i + 1))), (2, .int (nI (v + 0))), (0, .ref (bd 0 0)), (1, .int (nI s0))]) hx hb dX8_patterns_66 hl (k := 3) rfl (nI_1 i) (by decide) rfl (fun ls hl => ?_)
      refine lv_goto (tgt := 31) hx hb dX8_patterns_69 (by decide) ?_
      exact ih _ _ ls ⟨hW, hS, (v + 0), by rw [e_v, qsum]; unfold qB; split <;> omega, lv_sub hl [2, 3, 1, 0] rfl⟩
    · skip
      refine lv_aload_n hx hb dX8_patterns_50 rfl (lv_at hl 0 rfl) ?_
      refine q_get (C := RX8) (T := TX8) (N := 36) hx hb hts iRX8 hown hC.1 (hW.to rLV0) rfl 13 (by decide) (hts (.fieldLink RX8 38 "LogWeaveModel" "isMerged" "[Z") (List.mem_of_getElem? (i := 4) (by decide +kernel))) rfl (v := .ref (bd 10 0)) rfl dX8_patterns_51 ?_
      refine lv_iload_n hx hb dX8_patterns_54 rfl (lv_at hl 3 rfl) ?_
      refine r_zald hx hb hC.1 (hW.to rLV10) 4 rfl (i := i) (by omega) (by decide) (v := nI ((rT ρ) 97 i)) rfl dX8_patterns_55 ?_
      refine q_ne0 (tgt := 63) hx hb (q31 (hB _ _)) dX8_patterns_56 (by decide) (fun g6 => ?_) (fun g6 => ?_)
      · skip
        refine lv_iconst (v := nI 0) hx hb dX8_patterns_63 (by decide) ?_
        refine lv_iadd hx hb dX8_patterns_64 ?_
        refine q_ti (nI_add v 0) ?_
        refine lv_istore_n (lv' := [(2, .int (nI (v + 0))), (0, .ref (bd 0 0)), (1, .int (nI s0)), (3, .int (nI i))]) hx hb dX8_patterns_65 rfl hl (by decide) rfl (fun ls hl => ?_)
        refine lv_iinc (v := nI (i + 1)) (lv' := [(3, .int (nI (i + 1))), (2, .int (nI (v + 0))), (0, .ref (bd 0 0)), (1, .int (nI s0))]) hx hb dX8_patterns_66 hl (k := 3) rfl (nI_1 i) (by decide) rfl (fun ls hl => ?_)
        refine lv_goto (tgt := 31) hx hb dX8_patterns_69 (by decide) ?_
        exact ih _ _ ls ⟨hW, hS, (v + 0), by rw [e_v, qsum]; unfold qB; split <;> omega, lv_sub hl [2, 3, 1, 0] rfl⟩
      · skip
        refine lv_iconst (v := nI 1) hx hb dX8_patterns_59 (by decide) ?_
        refine lv_goto (tgt := 64) hx hb dX8_patterns_60 (by decide) ?_
        refine lv_iadd hx hb dX8_patterns_64 ?_
        refine q_ti (nI_add v 1) ?_
        refine lv_istore_n (lv' := [(2, .int (nI (v + 1))), (0, .ref (bd 0 0)), (1, .int (nI s0)), (3, .int (nI i))]) hx hb dX8_patterns_65 rfl hl (by decide) rfl (fun ls hl => ?_)
        refine lv_iinc (v := nI (i + 1)) (lv' := [(3, .int (nI (i + 1))), (2, .int (nI (v + 1))), (0, .ref (bd 0 0)), (1, .int (nI s0))]) hx hb dX8_patterns_66 hl (k := 3) rfl (nI_1 i) (by decide) rfl (fun ls hl => ?_)
        refine lv_goto (tgt := 31) hx hb dX8_patterns_69 (by decide) ?_
        exact ih _ _ ls ⟨hW, hS, (v + 1), by rw [e_v, qsum]; unfold qB; split <;> omega, lv_sub hl [2, 3, 1, 0] rfl⟩
set_option maxHeartbeats 4000000 in
set_option maxRecDepth 100000 in
theorem m_rlinesOf (l : Launch) (G : QG) (A : Nat → Prop) (ρ bd : QSt) (hF : rWF (rT ρ)) (p0 : Nat) (hp : p0 < (rT ρ) 0 1) (hm : (rT ρ) 97 p0 = 0) : Met l yX8_linesOf wsX8_linesOf ({ frames := 2, cells := 0, slots := 0, locals := 43 } : Room) (rR G A ρ bd [.ref (bd 0 0), .int (nI p0)]) (qWV (some (.int (nI (qsum (fun l => qB ((rT ρ) 68 l = p0)) ((rT ρ) 0 0))))) (rW G A (rT ρ) bd) A) 0 0 A := by
  refine Met.ofW (cc := cX8_linesOf) (maxL := 4) (ret := (some .int)) (by decide) rfl ?_
  intro p e s m args below meth c s₁ B hml hv
  obtain ⟨rfl, hC, hW⟩ := hv
  have hx := B.exec
  have hb := B.bytes
  have hr := B.returns
  have hts := atoms_spec (ws := wsX8_linesOf) B.pre
  have hown : s.vm.findClass RX8 = some m.cls := findClass_of_methodNamed B.named
  have hlocks := B.notSynchronized
  have hB := hF.1
  have hn := hF.n
  have hS : va_S A s.heap s.heap [] := va_S.rf
  have hl := lv_entry ([.ref (bd 0 0), .int (nI p0)]) (n := 4) (Nat.le_of_ble_eq_true rfl)
  rw [lg_entry_eq]
  generalize (lg_sl ([.ref (bd 0 0), .int (nI p0)]) ++ List.replicate (4 - (lg_sl ([.ref (bd 0 0), .int (nI p0)])).length) Slot.unset).toArray = ls at hl ⊢
  have hl : lv_has ls 4 [(0, .ref (bd 0 0)), (1, .int (nI p0))] := hl
  have iRX8 : ∀ w ∈ wsX80, w ∈ wsX8_linesOf := by decide +kernel
  refine lv_aload_n hx hb dX8_linesOf_0 rfl (lv_at hl 0 rfl) ?_
  refine lv_iconst (v := nI 0) hx hb dX8_linesOf_1 (by decide) ?_
  refine q_put (C := RX8) (T := TX8) (N := 36) (ty := .int) (v := .int (nI 0)) hx hb hts iRX8 tyX8 tyX8_ok nmX8 hown hC.1 (hW.to rLV0) (hW.in rLV0) hS rfl 0 (by decide) (hts (.fieldLink RX8 100 "LogWeaveModel" "thrown" "I") (List.mem_of_getElem? (i := 1) (by decide +kernel))) rfl rfl (by decide +kernel) rfl rfl (Nat.le_of_ble_eq_true rfl) dX8_linesOf_2 (fun H1 locs hat hsz hoq hS => ?_)
  have hW := hW.upR 2 0 0 rfl rLV0 ((rLV0 (ρ := (qup ρ 2 0 0))).trans (by rw [qup_s]; rfl)) hat hoq
  have hW : rW G A (rT ρ) bd _ := hW
  refine lv_aload_n hx hb dX8_linesOf_5 rfl (lv_at hl 0 rfl) ?_
  refine lv_aload_n hx hb dX8_linesOf_6 rfl (lv_at hl 0 rfl) ?_
  refine lv_iload_n hx hb dX8_linesOf_7 rfl (lv_at hl 1 rfl) ?_
  refine q_v (va_runV (As := [.int (nI p0)]) (rest := [.ref (bd 0 0)]) ⟨hx, hb, hml, hown, hts⟩ (m_rnoPattern0 l G A (rT ρ) bd hF p0 hp hm) (cwV 1 hts gX8_linesOf_X8_noPattern rfl rfl rfl (by decide +kernel) ⟨Nat.le_of_ble_eq_true rfl, Nat.le_of_ble_eq_true rfl⟩) ⟨rR.blind, qrecv hC (hW.to rLV0) rfl, rR.pre hC hW⟩ rfl rfl hl.1 rfl (lv_room (Nat.le_of_ble_eq_true rfl)) dX8_linesOf_8 ⟨Nat.le_of_ble_eq_true rfl, Nat.le_of_ble_eq_true rfl⟩) hS (fun _ h => h.elim) (fun locs hS => ?_)
  refine lv_iconst (v := nI 1) hx hb dX8_linesOf_11 (by decide) ?_
  refine q_v (va_runV (As := [.int (nI 0), .int (nI 1)]) (rest := []) ⟨hx, hb, hml, hown, hts⟩ (m_rfails0 l G A (rT ρ) bd hF 1 (rT_0 ρ)) (cwV 2 hts gX8_linesOf_X8_fails rfl rfl rfl (by decide +kernel) ⟨Nat.le_of_ble_eq_true rfl, Nat.le_of_ble_eq_true rfl⟩) ⟨rR.blind, qrecv hC (hW.to rLV0) rfl, rR.pre hC hW⟩ rfl rfl hl.1 rfl (lv_room (Nat.le_of_ble_eq_true rfl)) dX8_linesOf_12 ⟨Nat.le_of_ble_eq_true rfl, Nat.le_of_ble_eq_true rfl⟩) hS (fun _ h => h.elim) (fun locs hS => ?_)
  refine q_eq0 (tgt := 20) hx hb (by decide) dX8_linesOf_15 (by decide) (fun g1 => ?_) (fun g1 => (by omega))
  refine lv_iconst (v := nI 0) hx hb dX8_linesOf_20 (by decide) ?_
  refine lv_istore_n (lv' := [(2, .int (nI 0)), (0, .ref (bd 0 0)), (1, .int (nI p0))]) hx hb dX8_linesOf_21 rfl hl (by decide) rfl (fun ls hl => ?_)
  refine lv_iconst (v := nI 0) hx hb dX8_linesOf_22 (by decide) ?_
  refine lv_istore_n (lv' := [(3, .int (nI 0)), (2, .int (nI 0)), (0, .ref (bd 0 0)), (1, .int (nI p0))]) hx hb dX8_linesOf_23 rfl hl (by decide) rfl (fun ls hl => ?_)
  refine q_up ((rT ρ) 0 0) (fun i H locs ls => rW G A (rT ρ) bd H ∧ va_S A s.heap H locs ∧ ∃ (v : Nat), (v = qsum (fun l => qB ((rT ρ) 68 l = p0)) i) ∧ lv_has ls 4 [(0, .ref (bd 0 0)), (1, .int (nI p0)), (2, .int (nI v)), (3, .int (nI i))]) ?_ ?_ (i0 := 0) (Nat.zero_le _) ⟨hW, hS, 0, rfl, lv_sub hl [2, 3, 1, 0] rfl⟩
  · rintro H locs ls ⟨hW, hS, v, e_v, hl⟩
    refine lv_iload_n hx hb dX8_linesOf_24 rfl (lv_at hl 3 rfl) ?_
    refine lv_aload_n hx hb dX8_linesOf_25 rfl (lv_at hl 0 rfl) ?_
    refine q_get (C := RX8) (T := TX8) (N := 36) hx hb hts iRX8 hown hC.1 (hW.to rLV0) rfl 2 (by decide) (hts (.fieldLink RX8 104 "LogWeaveModel" "lines" "I") (List.mem_of_getElem? (i := 2) (by decide +kernel))) rfl (v := .int (nI ((rT ρ) 0 0))) rfl dX8_linesOf_26 ?_
    refine q_ge (tgt := 56) hx hb (q31 (hB _ _)) (q31 (hB _ _)) dX8_linesOf_29 (by decide) (fun g2 => ?_) (fun g2 => (by omega))
    refine lv_iload_n hx hb dX8_linesOf_56 rfl (lv_at hl 2 rfl) ?_
    exact W.iret hx hb hr (fun t ht _ => ⟨by rw [e_v], by rw [ht]; exact hW, hS.F ht⟩) hS.2.2 dX8_linesOf_57
  · rintro i H locs ls hi ⟨hW, hS, v, e_v, hl⟩ ih
    refine lv_iload_n hx hb dX8_linesOf_24 rfl (lv_at hl 3 rfl) ?_
    refine lv_aload_n hx hb dX8_linesOf_25 rfl (lv_at hl 0 rfl) ?_
    refine q_get (C := RX8) (T := TX8) (N := 36) hx hb hts iRX8 hown hC.1 (hW.to rLV0) rfl 2 (by decide) (hts (.fieldLink RX8 104 "LogWeaveModel" "lines" "I") (List.mem_of_getElem? (i := 2) (by decide +kernel))) rfl (v := .int (nI ((rT ρ) 0 0))) rfl dX8_linesOf_26 ?_
    refine q_ge (tgt := 56) hx hb (by omega) (q31 (hB _ _)) dX8_linesOf_29 (by decide) (fun g3 => (by omega)) (fun g3 => ?_)
    refine lv_iload_n hx hb dX8_linesOf_32 rfl (lv_at hl 2 rfl) ?_
    refine lv_aload_n hx hb dX8_linesOf_33 rfl (lv_at hl 0 rfl) ?_
    refine q_get (C := RX8) (T := TX8) (N := 36) hx hb hts iRX8 hown hC.1 (hW.to rLV0) rfl 9 (by decide) (hts (.fieldLink RX8 29 "LogWeaveModel" "pattern" "[I") (List.mem_of_getElem? (i := 3) (by decide +kernel))) rfl (v := .ref (bd 7 0)) rfl dX8_linesOf_34 ?_
    refine lv_iload_n hx hb dX8_linesOf_37 rfl (lv_at hl 3 rfl) ?_
    refine r_iald hx hb hC.1 (hW.to rLV7) 1 rfl (i := i) (by omega) (by decide) (v := nI ((rT ρ) 68 i)) rfl dX8_linesOf_38 ?_
    refine lv_iload_n hx hb dX8_linesOf_39 rfl (lv_at hl 1 rfl) ?_
    refine q_ne (tgt := 47) hx hb (q31 (hB _ _)) (by omega) dX8_linesOf_40 (by decide) (fun g4 => ?_) (fun g4 => ?_)
    · skip
      refine lv_iconst (v := nI 0) hx hb dX8_linesOf_47 (by decide) ?_
      refine lv_iadd hx hb dX8_linesOf_48 ?_
      refine q_ti (nI_add v 0) ?_
      refine lv_istore_n (lv' := [(2, .int (nI (v + 0))), (0, .ref (bd 0 0)), (1, .int (nI p0)), (3, .int (nI i))]) hx hb dX8_linesOf_49 rfl hl (by decide) rfl (fun ls hl => ?_)
      refine lv_iinc (v := nI (i + 1)) (lv' := [(3, .int (nI (i + 1))), (2, .int (nI (v + 0))), (0, .ref (bd 0 0)), (1, .int (nI p0))]) hx hb dX8_linesOf_50 hl (k := 3) rfl (nI_1 i) (by decide) rfl (fun ls hl => ?_)
      refine lv_goto (tgt := 24) hx hb dX8_linesOf_53 (by decide) ?_
      exact ih _ _ ls ⟨hW, hS, (v + 0), by rw [e_v, qsum]; unfold qB; split <;> omega, lv_sub hl [2, 3, 1, 0] rfl⟩
    · skip
      refine lv_iconst (v := nI 1) hx hb dX8_linesOf_43 (by decide) ?_
      refine lv_goto (tgt := 48) hx hb dX8_linesOf_44 (by decide) ?_
      refine lv_iadd hx hb dX8_linesOf_48 ?_
      refine q_ti (nI_add v 1) ?_
      refine lv_istore_n (lv' := [(2, .int (nI (v + 1))), (0, .ref (bd 0 0)), (1, .int (nI p0)), (3, .int (nI i))]) hx hb dX8_linesOf_49 rfl hl (by decide) rfl (fun ls hl => ?_)
      refine lv_iinc (v := nI (i + 1)) (lv' := [(3, .int (nI (i + 1))), (2, .int (nI (v + 1))), (0, .ref (bd 0 0)), (1, .int (nI p0))]) hx hb dX8_linesOf_50 hl (k := 3) rfl (nI_1 i) (by decide) rfl (fun ls hl => ?_)
      refine lv_goto (tgt := 24) hx hb dX8_linesOf_53 (by decide) ?_
      exact ih _ _ ls ⟨hW, hS, (v + 1), by rw [e_v, qsum]; unfold qB; split <;> omega, lv_sub hl [2, 3, 1, 0] rfl⟩
set_option maxHeartbeats 4000000 in
set_option maxRecDepth 100000 in
theorem m_rground (l : Launch) (G : QG) (A : Nat → Prop) (ρ bd : QSt) (hF : rWF (rT ρ)) (f : Nat) (hf : f < (rT ρ) 0 3) : Met l yX8_ground wsX8_ground ({ frames := 2, cells := 0, slots := 0, locals := 43 } : Room) (rR G A ρ bd [.ref (bd 0 0), .int (nI f)]) (qWV (some (.int (nI (qsum (fun l => qB (ron (rT ρ) f l)) ((rT ρ) 0 0))))) (rW G A (rT ρ) bd) A) 0 0 A := by
  refine Met.ofW (cc := cX8_ground) (maxL := 4) (ret := (some .int)) (by decide) rfl ?_
  intro p e s m args below meth c s₁ B hml hv
  obtain ⟨rfl, hC, hW⟩ := hv
  have hx := B.exec
  have hb := B.bytes
  have hr := B.returns
  have hts := atoms_spec (ws := wsX8_ground) B.pre
  have hown : s.vm.findClass RX8 = some m.cls := findClass_of_methodNamed B.named
  have hlocks := B.notSynchronized
  have hB := hF.1
  have hn := hF.n
  have hS : va_S A s.heap s.heap [] := va_S.rf
  have hl := lv_entry ([.ref (bd 0 0), .int (nI f)]) (n := 4) (Nat.le_of_ble_eq_true rfl)
  rw [lg_entry_eq]
  generalize (lg_sl ([.ref (bd 0 0), .int (nI f)]) ++ List.replicate (4 - (lg_sl ([.ref (bd 0 0), .int (nI f)])).length) Slot.unset).toArray = ls at hl ⊢
  have hl : lv_has ls 4 [(0, .ref (bd 0 0)), (1, .int (nI f))] := hl
  have iRX8 : ∀ w ∈ wsX80, w ∈ wsX8_ground := by decide +kernel
  refine lv_aload_n hx hb dX8_ground_0 rfl (lv_at hl 0 rfl) ?_
  refine lv_iconst (v := nI 0) hx hb dX8_ground_1 (by decide) ?_
  refine q_put (C := RX8) (T := TX8) (N := 36) (ty := .int) (v := .int (nI 0)) hx hb hts iRX8 tyX8 tyX8_ok nmX8 hown hC.1 (hW.to rLV0) (hW.in rLV0) hS rfl 0 (by decide) (hts (.fieldLink RX8 100 "LogWeaveModel" "thrown" "I") (List.mem_of_getElem? (i := 1) (by decide +kernel))) rfl rfl (by decide +kernel) rfl rfl (Nat.le_of_ble_eq_true rfl) dX8_ground_2 (fun H1 locs hat hsz hoq hS => ?_)
  have hW := hW.upR 2 0 0 rfl rLV0 ((rLV0 (ρ := (qup ρ 2 0 0))).trans (by rw [qup_s]; rfl)) hat hoq
  have hW : rW G A (rT ρ) bd _ := hW
  refine lv_aload_n hx hb dX8_ground_5 rfl (lv_at hl 0 rfl) ?_
  refine lv_aload_n hx hb dX8_ground_6 rfl (lv_at hl 0 rfl) ?_
  refine lv_iload_n hx hb dX8_ground_7 rfl (lv_at hl 1 rfl) ?_
  refine q_v (va_runV (As := [.int (nI f)]) (rest := [.ref (bd 0 0)]) ⟨hx, hb, hml, hown, hts⟩ (m_rnoFiring0 l G A (rT ρ) bd hF f hf) (cwV 1 hts gX8_ground_X8_noFiring rfl rfl rfl (by decide +kernel) ⟨Nat.le_of_ble_eq_true rfl, Nat.le_of_ble_eq_true rfl⟩) ⟨rR.blind, qrecv hC (hW.to rLV0) rfl, rR.pre hC hW⟩ rfl rfl hl.1 rfl (lv_room (Nat.le_of_ble_eq_true rfl)) dX8_ground_8 ⟨Nat.le_of_ble_eq_true rfl, Nat.le_of_ble_eq_true rfl⟩) hS (fun _ h => h.elim) (fun locs hS => ?_)
  refine lv_iconst (v := nI 1) hx hb dX8_ground_11 (by decide) ?_
  refine q_v (va_runV (As := [.int (nI 0), .int (nI 1)]) (rest := []) ⟨hx, hb, hml, hown, hts⟩ (m_rfails0 l G A (rT ρ) bd hF 1 (rT_0 ρ)) (cwV 2 hts gX8_ground_X8_fails rfl rfl rfl (by decide +kernel) ⟨Nat.le_of_ble_eq_true rfl, Nat.le_of_ble_eq_true rfl⟩) ⟨rR.blind, qrecv hC (hW.to rLV0) rfl, rR.pre hC hW⟩ rfl rfl hl.1 rfl (lv_room (Nat.le_of_ble_eq_true rfl)) dX8_ground_12 ⟨Nat.le_of_ble_eq_true rfl, Nat.le_of_ble_eq_true rfl⟩) hS (fun _ h => h.elim) (fun locs hS => ?_)
  refine q_eq0 (tgt := 20) hx hb (by decide) dX8_ground_15 (by decide) (fun g1 => ?_) (fun g1 => (by omega))
  refine lv_iconst (v := nI 0) hx hb dX8_ground_20 (by decide) ?_
  refine lv_istore_n (lv' := [(2, .int (nI 0)), (0, .ref (bd 0 0)), (1, .int (nI f))]) hx hb dX8_ground_21 rfl hl (by decide) rfl (fun ls hl => ?_)
  refine lv_iconst (v := nI 0) hx hb dX8_ground_22 (by decide) ?_
  refine lv_istore_n (lv' := [(3, .int (nI 0)), (2, .int (nI 0)), (0, .ref (bd 0 0)), (1, .int (nI f))]) hx hb dX8_ground_23 rfl hl (by decide) rfl (fun ls hl => ?_)
  refine q_up ((rT ρ) 0 0) (fun i H locs ls => rW G A (rT ρ) bd H ∧ va_S A s.heap H locs ∧ ∃ (v : Nat), (v = qsum (fun l => qB (ron (rT ρ) f l)) i) ∧ lv_has ls 4 [(0, .ref (bd 0 0)), (1, .int (nI f)), (2, .int (nI v)), (3, .int (nI i))]) ?_ ?_ (i0 := 0) (Nat.zero_le _) ⟨hW, hS, 0, rfl, lv_sub hl [2, 3, 1, 0] rfl⟩
  · rintro H locs ls ⟨hW, hS, v, e_v, hl⟩
    refine lv_iload_n hx hb dX8_ground_24 rfl (lv_at hl 3 rfl) ?_
    refine lv_aload_n hx hb dX8_ground_25 rfl (lv_at hl 0 rfl) ?_
    refine q_get (C := RX8) (T := TX8) (N := 36) hx hb hts iRX8 hown hC.1 (hW.to rLV0) rfl 2 (by decide) (hts (.fieldLink RX8 104 "LogWeaveModel" "lines" "I") (List.mem_of_getElem? (i := 2) (by decide +kernel))) rfl (v := .int (nI ((rT ρ) 0 0))) rfl dX8_ground_26 ?_
    refine q_ge (tgt := 55) hx hb (q31 (hB _ _)) (q31 (hB _ _)) dX8_ground_29 (by decide) (fun g2 => ?_) (fun g2 => (by omega))
    refine lv_iload_n hx hb dX8_ground_55 rfl (lv_at hl 2 rfl) ?_
    exact W.iret hx hb hr (fun t ht _ => ⟨by rw [e_v], by rw [ht]; exact hW, hS.F ht⟩) hS.2.2 dX8_ground_56
  · rintro i H locs ls hi ⟨hW, hS, v, e_v, hl⟩ ih
    refine lv_iload_n hx hb dX8_ground_24 rfl (lv_at hl 3 rfl) ?_
    refine lv_aload_n hx hb dX8_ground_25 rfl (lv_at hl 0 rfl) ?_
    refine q_get (C := RX8) (T := TX8) (N := 36) hx hb hts iRX8 hown hC.1 (hW.to rLV0) rfl 2 (by decide) (hts (.fieldLink RX8 104 "LogWeaveModel" "lines" "I") (List.mem_of_getElem? (i := 2) (by decide +kernel))) rfl (v := .int (nI ((rT ρ) 0 0))) rfl dX8_ground_26 ?_
    refine q_ge (tgt := 55) hx hb (by omega) (q31 (hB _ _)) dX8_ground_29 (by decide) (fun g3 => (by omega)) (fun g3 => ?_)
    refine lv_iload_n hx hb dX8_ground_32 rfl (lv_at hl 2 rfl) ?_
    refine lv_aload_n hx hb dX8_ground_33 rfl (lv_at hl 0 rfl) ?_
    refine lv_iload_n hx hb dX8_ground_34 rfl (lv_at hl 1 rfl) ?_
    refine lv_iload_n hx hb dX8_ground_35 rfl (lv_at hl 3 rfl) ?_
    refine q_v (va_runV (As := [.int (nI f), .int (nI i)]) (rest := [.int (nI v)]) ⟨hx, hb, hml, hown, hts⟩ (m_risOn l G A (rT ρ) bd hF f i hf hi) (cwV 2 hts gX8_ground_X8_isOn rfl rfl rfl (by decide +kernel) ⟨Nat.le_of_ble_eq_true rfl, Nat.le_of_ble_eq_true rfl⟩) ⟨rR.blind, qrecv hC (hW.to rLV0) rfl, rR.pre hC hW⟩ rfl rfl hl.1 rfl (lv_room (Nat.le_of_ble_eq_true rfl)) dX8_ground_36 ⟨Nat.le_of_ble_eq_true rfl, Nat.le_of_ble_eq_true rfl⟩) hS (fun _ h => h.elim) (fun locs hS => ?_)
    refine q_eq0 (tgt := 46) hx hb q_31B dX8_ground_39 (by decide) (fun g4 => ?_) (fun g4 => ?_)
    · skip
      refine lv_iconst (v := nI 0) hx hb dX8_ground_46 (by decide) ?_
      refine lv_iadd hx hb dX8_ground_47 ?_
      refine q_ti (nI_add v 0) ?_
      refine lv_istore_n (lv' := [(2, .int (nI (v + 0))), (0, .ref (bd 0 0)), (1, .int (nI f)), (3, .int (nI i))]) hx hb dX8_ground_48 rfl hl (by decide) rfl (fun ls hl => ?_)
      refine lv_iinc (v := nI (i + 1)) (lv' := [(3, .int (nI (i + 1))), (2, .int (nI (v + 0))), (0, .ref (bd 0 0)), (1, .int (nI f))]) hx hb dX8_ground_49 hl (k := 3) rfl (nI_1 i) (by decide) rfl (fun ls hl => ?_)
      refine lv_goto (tgt := 24) hx hb dX8_ground_52 (by decide) ?_
      exact ih _ _ ls ⟨hW, hS, (v + 0), by rw [e_v, qsum]; have := qB_le (p := ron (rT ρ) f i); omega, lv_sub hl [2, 3, 1, 0] rfl⟩
    · skip
      refine lv_iconst (v := nI 1) hx hb dX8_ground_42 (by decide) ?_
      refine lv_goto (tgt := 47) hx hb dX8_ground_43 (by decide) ?_
      refine lv_iadd hx hb dX8_ground_47 ?_
      refine q_ti (nI_add v 1) ?_
      refine lv_istore_n (lv' := [(2, .int (nI (v + 1))), (0, .ref (bd 0 0)), (1, .int (nI f)), (3, .int (nI i))]) hx hb dX8_ground_48 rfl hl (by decide) rfl (fun ls hl => ?_)
      refine lv_iinc (v := nI (i + 1)) (lv' := [(3, .int (nI (i + 1))), (2, .int (nI (v + 1))), (0, .ref (bd 0 0)), (1, .int (nI f))]) hx hb dX8_ground_49 hl (k := 3) rfl (nI_1 i) (by decide) rfl (fun ls hl => ?_)
      refine lv_goto (tgt := 24) hx hb dX8_ground_52 (by decide) ?_
      exact ih _ _ ls ⟨hW, hS, (v + 1), by rw [e_v, qsum]; have := qB_le (p := ron (rT ρ) f i); omega, lv_sub hl [2, 3, 1, 0] rfl⟩
set_option maxHeartbeats 4000000 in
set_option maxRecDepth 100000 in
theorem m_rkept (l : Launch) (G : QG) (A : Nat → Prop) (ρ bd : QSt) (hF : rWF (rT ρ)) (s0 : Nat) (hs0 : s0 < 4) : Met l yX8_kept wsX8_kept ({ frames := 2, cells := 0, slots := 0, locals := 42 } : Room) (rR G A ρ bd [.ref (bd 0 0), .int (nI s0)]) (qWV (some (.int (nI (qkept (rT ρ) s0)))) (rW G A (rT ρ) bd) A) 0 0 A := by
  refine Met.ofW (cc := cX8_kept) (maxL := 2) (ret := (some .int)) (by decide) rfl ?_
  intro p e s m args below meth c s₁ B hml hv
  obtain ⟨rfl, hC, hW⟩ := hv
  have hx := B.exec
  have hb := B.bytes
  have hr := B.returns
  have hts := atoms_spec (ws := wsX8_kept) B.pre
  have hown : s.vm.findClass RX8 = some m.cls := findClass_of_methodNamed B.named
  have hlocks := B.notSynchronized
  have hB := hF.1
  have hn := hF.n
  have hS : va_S A s.heap s.heap [] := va_S.rf
  have hl := lv_entry ([.ref (bd 0 0), .int (nI s0)]) (n := 2) (Nat.le_of_ble_eq_true rfl)
  rw [lg_entry_eq]
  generalize (lg_sl ([.ref (bd 0 0), .int (nI s0)]) ++ List.replicate (2 - (lg_sl ([.ref (bd 0 0), .int (nI s0)])).length) Slot.unset).toArray = ls at hl ⊢
  have hl : lv_has ls 2 [(0, .ref (bd 0 0)), (1, .int (nI s0))] := hl
  have iRX8 : ∀ w ∈ wsX80, w ∈ wsX8_kept := by decide +kernel
  refine lv_aload_n hx hb dX8_kept_0 rfl (lv_at hl 0 rfl) ?_
  refine lv_iconst (v := nI 0) hx hb dX8_kept_1 (by decide) ?_
  refine q_put (C := RX8) (T := TX8) (N := 36) (ty := .int) (v := .int (nI 0)) hx hb hts iRX8 tyX8 tyX8_ok nmX8 hown hC.1 (hW.to rLV0) (hW.in rLV0) hS rfl 0 (by decide) (hts (.fieldLink RX8 100 "LogWeaveModel" "thrown" "I") (List.mem_of_getElem? (i := 1) (by decide +kernel))) rfl rfl (by decide +kernel) rfl rfl (Nat.le_of_ble_eq_true rfl) dX8_kept_2 (fun H1 locs hat hsz hoq hS => ?_)
  have hW := hW.upR 2 0 0 rfl rLV0 ((rLV0 (ρ := (qup ρ 2 0 0))).trans (by rw [qup_s]; rfl)) hat hoq
  have hW : rW G A (rT ρ) bd _ := hW
  refine lv_aload_n hx hb dX8_kept_5 rfl (lv_at hl 0 rfl) ?_
  refine lv_iload_n hx hb dX8_kept_6 rfl (lv_at hl 1 rfl) ?_
  refine q_v (va_runS (As := [.int (nI s0)]) (rest := [.ref (bd 0 0)]) ⟨hx, hb, hml, hown, hts⟩ (m_risSource l (nI s0)) (va_cwS 1 hts gX8_kept_X8_isSource rfl rfl rfl (by decide +kernel) ⟨Nat.le_of_ble_eq_true rfl, Nat.le_of_ble_eq_true rfl⟩) ⟨qU.blind, qU.pre⟩ rfl rfl hl.1 rfl (lv_room (Nat.le_of_ble_eq_true rfl)) dX8_kept_7 ⟨Nat.le_of_ble_eq_true rfl, Nat.le_of_ble_eq_true rfl⟩) hS (fun _ h => h.elim) (fun locs hS => ?_)
  refine q_ti (y := nI 1) (by rw [qB_t ⟨nI_le (by omega) (by omega), nI_le (by omega) (by decide)⟩]) ?_
  refine q_ne0 (tgt := 17) hx hb (by decide) dX8_kept_10 (by decide) (fun g1 => ?_) (fun g1 => (by omega))
  refine lv_iconst (v := nI 0) hx hb dX8_kept_17 (by decide) ?_
  refine lv_iconst (v := nI 1) hx hb dX8_kept_18 (by decide) ?_
  refine q_v (va_runV (As := [.int (nI 0), .int (nI 1)]) (rest := []) ⟨hx, hb, hml, hown, hts⟩ (m_rfails0 l G A (rT ρ) bd hF 1 (rT_0 ρ)) (cwV 2 hts gX8_kept_X8_fails rfl rfl rfl (by decide +kernel) ⟨Nat.le_of_ble_eq_true rfl, Nat.le_of_ble_eq_true rfl⟩) ⟨rR.blind, qrecv hC (hW.to rLV0) rfl, rR.pre hC hW⟩ rfl rfl hl.1 rfl (lv_room (Nat.le_of_ble_eq_true rfl)) dX8_kept_19 ⟨Nat.le_of_ble_eq_true rfl, Nat.le_of_ble_eq_true rfl⟩) hS (fun _ h => h.elim) (fun locs hS => ?_)
  refine q_eq0 (tgt := 29) hx hb (by decide) dX8_kept_22 (by decide) (fun g2 => ?_) (fun g2 => (by omega))
  refine lv_aload_n hx hb dX8_kept_29 rfl (lv_at hl 0 rfl) ?_
  refine lv_iload_n hx hb dX8_kept_30 rfl (lv_at hl 1 rfl) ?_
  refine q_v (va_runV (As := [.int (nI s0)]) (rest := []) ⟨hx, hb, hml, hown, hts⟩ (m_rkeptNow l G A (rT ρ) bd hF s0 (by omega)) (cwV 1 hts gX8_kept_X8_keptNow rfl rfl rfl (by decide +kernel) ⟨Nat.le_of_ble_eq_true rfl, Nat.le_of_ble_eq_true rfl⟩) ⟨rR.blind, qrecv hC (hW.to rLV0) rfl, rR.pre hC hW⟩ rfl rfl hl.1 rfl (lv_room (Nat.le_of_ble_eq_true rfl)) dX8_kept_31 ⟨Nat.le_of_ble_eq_true rfl, Nat.le_of_ble_eq_true rfl⟩) hS (fun _ h => h.elim) (fun locs hS => ?_)
  exact W.iret hx hb hr (fun t ht _ => ⟨rfl, by rw [ht]; exact hW, hS.F ht⟩) hS.2.2 dX8_kept_34
set_option maxHeartbeats 4000000 in
set_option maxRecDepth 100000 in
theorem m_rdropped (l : Launch) (G : QG) (A : Nat → Prop) (ρ bd : QSt) (hF : rWF (rT ρ)) (s0 : Nat) (hs0 : s0 < 4) : Met l yX8_dropped wsX8_dropped ({ frames := 2, cells := 0, slots := 0, locals := 42 } : Room) (rR G A ρ bd [.ref (bd 0 0), .int (nI s0)]) (qWV (some (.int (nI (qsum (fun l => qB ((rT ρ) 64 l = s0 ∧ (rT ρ) 69 l = 100 ∧ 0 ≤ (rT ρ) 65 l)) ((rT ρ) 0 0))))) (rW G A (rT ρ) bd) A) 0 0 A := by
  refine Met.ofW (cc := cX8_dropped) (maxL := 2) (ret := (some .int)) (by decide) rfl ?_
  intro p e s m args below meth c s₁ B hml hv
  obtain ⟨rfl, hC, hW⟩ := hv
  have hx := B.exec
  have hb := B.bytes
  have hr := B.returns
  have hts := atoms_spec (ws := wsX8_dropped) B.pre
  have hown : s.vm.findClass RX8 = some m.cls := findClass_of_methodNamed B.named
  have hlocks := B.notSynchronized
  have hB := hF.1
  have hn := hF.n
  have hS : va_S A s.heap s.heap [] := va_S.rf
  have hl := lv_entry ([.ref (bd 0 0), .int (nI s0)]) (n := 2) (Nat.le_of_ble_eq_true rfl)
  rw [lg_entry_eq]
  generalize (lg_sl ([.ref (bd 0 0), .int (nI s0)]) ++ List.replicate (2 - (lg_sl ([.ref (bd 0 0), .int (nI s0)])).length) Slot.unset).toArray = ls at hl ⊢
  have hl : lv_has ls 2 [(0, .ref (bd 0 0)), (1, .int (nI s0))] := hl
  have iRX8 : ∀ w ∈ wsX80, w ∈ wsX8_dropped := by decide +kernel
  refine lv_aload_n hx hb dX8_dropped_0 rfl (lv_at hl 0 rfl) ?_
  refine lv_iconst (v := nI 0) hx hb dX8_dropped_1 (by decide) ?_
  refine q_put (C := RX8) (T := TX8) (N := 36) (ty := .int) (v := .int (nI 0)) hx hb hts iRX8 tyX8 tyX8_ok nmX8 hown hC.1 (hW.to rLV0) (hW.in rLV0) hS rfl 0 (by decide) (hts (.fieldLink RX8 100 "LogWeaveModel" "thrown" "I") (List.mem_of_getElem? (i := 1) (by decide +kernel))) rfl rfl (by decide +kernel) rfl rfl (Nat.le_of_ble_eq_true rfl) dX8_dropped_2 (fun H1 locs hat hsz hoq hS => ?_)
  have hW := hW.upR 2 0 0 rfl rLV0 ((rLV0 (ρ := (qup ρ 2 0 0))).trans (by rw [qup_s]; rfl)) hat hoq
  have hW : rW G A (rT ρ) bd _ := hW
  refine lv_aload_n hx hb dX8_dropped_5 rfl (lv_at hl 0 rfl) ?_
  refine lv_iload_n hx hb dX8_dropped_6 rfl (lv_at hl 1 rfl) ?_
  refine q_v (va_runS (As := [.int (nI s0)]) (rest := [.ref (bd 0 0)]) ⟨hx, hb, hml, hown, hts⟩ (m_risSource l (nI s0)) (va_cwS 1 hts gX8_dropped_X8_isSource rfl rfl rfl (by decide +kernel) ⟨Nat.le_of_ble_eq_true rfl, Nat.le_of_ble_eq_true rfl⟩) ⟨qU.blind, qU.pre⟩ rfl rfl hl.1 rfl (lv_room (Nat.le_of_ble_eq_true rfl)) dX8_dropped_7 ⟨Nat.le_of_ble_eq_true rfl, Nat.le_of_ble_eq_true rfl⟩) hS (fun _ h => h.elim) (fun locs hS => ?_)
  refine q_ti (y := nI 1) (by rw [qB_t ⟨nI_le (by omega) (by omega), nI_le (by omega) (by decide)⟩]) ?_
  refine q_ne0 (tgt := 17) hx hb (by decide) dX8_dropped_10 (by decide) (fun g1 => ?_) (fun g1 => (by omega))
  refine lv_iconst (v := nI 0) hx hb dX8_dropped_17 (by decide) ?_
  refine lv_iconst (v := nI 1) hx hb dX8_dropped_18 (by decide) ?_
  refine q_v (va_runV (As := [.int (nI 0), .int (nI 1)]) (rest := []) ⟨hx, hb, hml, hown, hts⟩ (m_rfails0 l G A (rT ρ) bd hF 1 (rT_0 ρ)) (cwV 2 hts gX8_dropped_X8_fails rfl rfl rfl (by decide +kernel) ⟨Nat.le_of_ble_eq_true rfl, Nat.le_of_ble_eq_true rfl⟩) ⟨rR.blind, qrecv hC (hW.to rLV0) rfl, rR.pre hC hW⟩ rfl rfl hl.1 rfl (lv_room (Nat.le_of_ble_eq_true rfl)) dX8_dropped_19 ⟨Nat.le_of_ble_eq_true rfl, Nat.le_of_ble_eq_true rfl⟩) hS (fun _ h => h.elim) (fun locs hS => ?_)
  refine q_eq0 (tgt := 29) hx hb (by decide) dX8_dropped_22 (by decide) (fun g2 => ?_) (fun g2 => (by omega))
  refine lv_aload_n hx hb dX8_dropped_29 rfl (lv_at hl 0 rfl) ?_
  refine lv_iload_n hx hb dX8_dropped_30 rfl (lv_at hl 1 rfl) ?_
  refine lv_bipush (v := nI 100) hx hb dX8_dropped_31 (by decide) ?_
  refine lv_iconst (v := nI 0) hx hb dX8_dropped_33 (by decide) ?_
  refine q_v (va_runV (As := [.int (nI s0), .int (nI 100), .int (nI 0)]) (rest := []) ⟨hx, hb, hml, hown, hts⟩ (m_rcount l G A (rT ρ) bd hF s0 (by omega) 100 0 (by decide) (by decide)) (cwV 3 hts gX8_dropped_X8_count rfl rfl rfl (by decide +kernel) ⟨Nat.le_of_ble_eq_true rfl, Nat.le_of_ble_eq_true rfl⟩) ⟨rR.blind, qrecv hC (hW.to rLV0) rfl, rR.pre hC hW⟩ rfl rfl hl.1 rfl (lv_room (Nat.le_of_ble_eq_true rfl)) dX8_dropped_34 ⟨Nat.le_of_ble_eq_true rfl, Nat.le_of_ble_eq_true rfl⟩) hS (fun _ h => h.elim) (fun locs hS => ?_)
  exact W.iret hx hb hr (fun t ht _ => ⟨rfl, by rw [ht]; exact hW, hS.F ht⟩) hS.2.2 dX8_dropped_37
set_option maxHeartbeats 4000000 in
set_option maxRecDepth 100000 in
theorem m_ranswer (l : Launch) (G : QG) (A : Nat → Prop) (ρ bd : QSt) (hF : rWF (rT ρ)) (i : Nat) (hi : i < (rT ρ) 0 4) (h1 : (rT ρ) 195 i ≠ 0) : Met l yX8_answer wsX8_answer ({ frames := 1, cells := 0, slots := 0, locals := 22 } : Room) (rR G A ρ bd [.ref (bd 0 0), .int (nI i)]) (qWV (some (.int (nI ((rT ρ) 195 i - 1)))) (rW G A (rT ρ) bd) A) 0 0 A := by
  refine Met.ofW (cc := cX8_answer) (maxL := 2) (ret := (some .int)) (by decide) rfl ?_
  intro p e s m args below meth c s₁ B hml hv
  obtain ⟨rfl, hC, hW⟩ := hv
  have hx := B.exec
  have hb := B.bytes
  have hr := B.returns
  have hts := atoms_spec (ws := wsX8_answer) B.pre
  have hown : s.vm.findClass RX8 = some m.cls := findClass_of_methodNamed B.named
  have hlocks := B.notSynchronized
  have hB := hF.1
  have hn := hF.n
  have hS : va_S A s.heap s.heap [] := va_S.rf
  have hl := lv_entry ([.ref (bd 0 0), .int (nI i)]) (n := 2) (Nat.le_of_ble_eq_true rfl)
  rw [lg_entry_eq]
  generalize (lg_sl ([.ref (bd 0 0), .int (nI i)]) ++ List.replicate (2 - (lg_sl ([.ref (bd 0 0), .int (nI i)])).length) Slot.unset).toArray = ls at hl ⊢
  have hl : lv_has ls 2 [(0, .ref (bd 0 0)), (1, .int (nI i))] := hl
  have iRX8 : ∀ w ∈ wsX80, w ∈ wsX8_answer := by decide +kernel
  refine lv_aload_n hx hb dX8_answer_0 rfl (lv_at hl 0 rfl) ?_
  refine lv_iconst (v := nI 0) hx hb dX8_answer_1 (by decide) ?_
  refine q_put (C := RX8) (T := TX8) (N := 36) (ty := .int) (v := .int (nI 0)) hx hb hts iRX8 tyX8 tyX8_ok nmX8 hown hC.1 (hW.to rLV0) (hW.in rLV0) hS rfl 0 (by decide) (hts (.fieldLink RX8 100 "LogWeaveModel" "thrown" "I") (List.mem_of_getElem? (i := 1) (by decide +kernel))) rfl rfl (by decide +kernel) rfl rfl (Nat.le_of_ble_eq_true rfl) dX8_answer_2 (fun H1 locs hat hsz hoq hS => ?_)
  have hW := hW.upR 2 0 0 rfl rLV0 ((rLV0 (ρ := (qup ρ 2 0 0))).trans (by rw [qup_s]; rfl)) hat hoq
  have hW : rW G A (rT ρ) bd _ := hW
  refine lv_aload_n hx hb dX8_answer_5 rfl (lv_at hl 0 rfl) ?_
  refine lv_iload_n hx hb dX8_answer_6 rfl (lv_at hl 1 rfl) ?_
  refine lv_iconst (v := nI 0) hx hb dX8_answer_7 (by decide) ?_
  refine lv_aload_n hx hb dX8_answer_8 rfl (lv_at hl 0 rfl) ?_
  refine q_get (C := RX8) (T := TX8) (N := 36) hx hb hts iRX8 hown hC.1 (hW.to rLV0) rfl 31 (by decide) (hts (.fieldLink RX8 181 "LogWeaveModel" "requests" "I") (List.mem_of_getElem? (i := 2) (by decide +kernel))) rfl (v := .int (nI ((rT ρ) 0 4))) rfl dX8_answer_9 ?_
  refine lv_iconst (v := nI 1) hx hb dX8_answer_12 (by decide) ?_
  refine lv_isub hx hb dX8_answer_13 ?_
  refine q_ti (y := nI ((rT ρ) 0 4) - 1) rfl ?_
  refine q_v (va_runS (As := [.int (nI i), .int (nI 0), .int (nI ((rT ρ) 0 4) - 1)]) (rest := [.ref (bd 0 0)]) ⟨hx, hb, hml, hown, hts⟩ (m_rin l (nI i) (nI 0) (nI ((rT ρ) 0 4) - 1)) (va_cwS 3 hts gX8_answer_X8_in rfl rfl rfl (by decide +kernel) ⟨Nat.le_of_ble_eq_true rfl, Nat.le_of_ble_eq_true rfl⟩) ⟨qU.blind, qU.pre⟩ rfl rfl hl.1 rfl (lv_room (Nat.le_of_ble_eq_true rfl)) dX8_answer_14 ⟨Nat.le_of_ble_eq_true rfl, Nat.le_of_ble_eq_true rfl⟩) hS (fun _ h => h.elim) (fun locs hS => ?_)
  refine q_ti (y := nI 1) (by rw [r_in1 hi (hB _ _)]) ?_
  refine q_ne0 (tgt := 24) hx hb (by decide) dX8_answer_17 (by decide) (fun g1 => ?_) (fun g1 => (by omega))
  refine lv_iconst (v := nI 0) hx hb dX8_answer_24 (by decide) ?_
  refine lv_iconst (v := nI 1) hx hb dX8_answer_25 (by decide) ?_
  refine q_v (va_runV (As := [.int (nI 0), .int (nI 1)]) (rest := []) ⟨hx, hb, hml, hown, hts⟩ (m_rfails0 l G A (rT ρ) bd hF 1 (rT_0 ρ)) (cwV 2 hts gX8_answer_X8_fails rfl rfl rfl (by decide +kernel) ⟨Nat.le_of_ble_eq_true rfl, Nat.le_of_ble_eq_true rfl⟩) ⟨rR.blind, qrecv hC (hW.to rLV0) rfl, rR.pre hC hW⟩ rfl rfl hl.1 rfl (lv_room (Nat.le_of_ble_eq_true rfl)) dX8_answer_26 ⟨Nat.le_of_ble_eq_true rfl, Nat.le_of_ble_eq_true rfl⟩) hS (fun _ h => h.elim) (fun locs hS => ?_)
  refine q_ne0 (tgt := 55) hx hb (by decide) dX8_answer_29 (by decide) (fun g2 => (by omega)) (fun g2 => ?_)
  refine lv_aload_n hx hb dX8_answer_32 rfl (lv_at hl 0 rfl) ?_
  refine lv_aload_n hx hb dX8_answer_33 rfl (lv_at hl 0 rfl) ?_
  refine q_get (C := RX8) (T := TX8) (N := 36) hx hb hts iRX8 hown hC.1 (hW.to rLV0) rfl 35 (by decide) (hts (.fieldLink RX8 97 "LogWeaveModel" "answer" "[I") (List.mem_of_getElem? (i := 3) (by decide +kernel))) rfl (v := .ref (bd 29 0)) rfl dX8_answer_34 ?_
  refine lv_iload_n hx hb dX8_answer_37 rfl (lv_at hl 1 rfl) ?_
  refine r_iald hx hb hC.1 (hW.to rLV29) 1 rfl (i := i) (by omega) (by decide) (v := nI ((rT ρ) 195 i) - 1) rfl dX8_answer_38 ?_
  refine lv_iconst (v := -1) hx hb dX8_answer_39 (by decide) ?_
  refine q_neP hx hb (q_m0 (hB _ _)) dX8_answer_40 (tgt := 47) (by decide) (fun g3 => ?_) (fun g3 => ?_)
  · skip
    refine lv_iconst (v := nI 0) hx hb dX8_answer_47 (by decide) ?_
    refine lv_iconst (v := nI 2) hx hb dX8_answer_48 (by decide) ?_
    refine q_v (va_runV (As := [.int (nI 0), .int (nI 2)]) (rest := []) ⟨hx, hb, hml, hown, hts⟩ (m_rfails0 l G A (rT ρ) bd hF 2 (rT_0 ρ)) (cwV 2 hts gX8_answer_X8_fails rfl rfl rfl (by decide +kernel) ⟨Nat.le_of_ble_eq_true rfl, Nat.le_of_ble_eq_true rfl⟩) ⟨rR.blind, qrecv hC (hW.to rLV0) rfl, rR.pre hC hW⟩ rfl rfl hl.1 rfl (lv_room (Nat.le_of_ble_eq_true rfl)) dX8_answer_49 ⟨Nat.le_of_ble_eq_true rfl, Nat.le_of_ble_eq_true rfl⟩) hS (fun _ h => h.elim) (fun locs hS => ?_)
    refine q_eq0 (tgt := 59) hx hb (by decide) dX8_answer_52 (by decide) (fun g4 => ?_) (fun g4 => (by omega))
    refine lv_aload_n hx hb dX8_answer_59 rfl (lv_at hl 0 rfl) ?_
    refine q_get (C := RX8) (T := TX8) (N := 36) hx hb hts iRX8 hown hC.1 (hW.to rLV0) rfl 35 (by decide) (hts (.fieldLink RX8 97 "LogWeaveModel" "answer" "[I") (List.mem_of_getElem? (i := 3) (by decide +kernel))) rfl (v := .ref (bd 29 0)) rfl dX8_answer_60 ?_
    refine lv_iload_n hx hb dX8_answer_63 rfl (lv_at hl 1 rfl) ?_
    refine r_iald hx hb hC.1 (hW.to rLV29) 1 rfl (i := i) (by omega) (by decide) (v := nI ((rT ρ) 195 i) - 1) rfl dX8_answer_64 ?_
    exact W.iret hx hb hr (fun t ht _ => ⟨by rw [q_pred h1], by rw [ht]; exact hW, hS.F ht⟩) hS.2.2 dX8_answer_65
  · skip
    refine lv_iconst (v := nI 1) hx hb dX8_answer_43 (by decide) ?_
    refine lv_goto (tgt := 48) hx hb dX8_answer_44 (by decide) ?_
    refine lv_iconst (v := nI 2) hx hb dX8_answer_48 (by decide) ?_
    refine q_wv (va_runV (As := [.int (nI 1), .int (nI 2)]) (rest := []) ⟨hx, hb, hml, hown, hts⟩ (m_rfails1 l G A (rT ρ) bd hF 2 (by decide) (by decide) (rT_0 ρ)) (cwV 2 hts gX8_answer_X8_fails rfl rfl rfl (by decide +kernel) ⟨Nat.le_of_ble_eq_true rfl, Nat.le_of_ble_eq_true rfl⟩) ⟨rR.blind, qrecv hC (hW.to rLV0) rfl, rR.pre hC hW⟩ rfl rfl hl.1 rfl (lv_room (Nat.le_of_ble_eq_true rfl)) dX8_answer_49 ⟨Nat.le_of_ble_eq_true rfl, Nat.le_of_ble_eq_true rfl⟩) hS (fun _ h => h) (fun _ h => h) (fun H1 locs hW hz hk hS => ?_)
    refine q_eq0 (tgt := 59) hx hb (by decide) dX8_answer_52 (by decide) (fun g5 => (by omega)) (fun g5 => ?_)
    refine lv_iconst (v := nI 0) hx hb dX8_answer_55 (by decide) ?_
    refine lv_goto (tgt := 65) hx hb dX8_answer_56 (by decide) ?_
    exact absurd g3 h1
set_option maxHeartbeats 4000000 in
set_option maxRecDepth 100000 in
theorem m_rcounted (l : Launch) (G : QG) (A : Nat → Prop) (ρ bd : QSt) (hF : rWF (rT ρ)) (i : Nat) (hi : i < (rT ρ) 0 2) : Met l yX8_counted wsX8_counted ({ frames := 2, cells := 0, slots := 0, locals := 46 } : Room) (rR G A ρ bd [.ref (bd 0 0), .int (nI i)]) (qWV (some (.int (nI (qcnt (rT ρ) i)))) (rW G A (rT ρ) bd) A) 0 0 A := by
  refine Met.ofW (cc := cX8_counted) (maxL := 2) (ret := (some .int)) (by decide) rfl ?_
  intro p e s m args below meth c s₁ B hml hv
  obtain ⟨rfl, hC, hW⟩ := hv
  have hx := B.exec
  have hb := B.bytes
  have hr := B.returns
  have hts := atoms_spec (ws := wsX8_counted) B.pre
  have hown : s.vm.findClass RX8 = some m.cls := findClass_of_methodNamed B.named
  have hlocks := B.notSynchronized
  have hB := hF.1
  have hn := hF.n
  have hS : va_S A s.heap s.heap [] := va_S.rf
  have hl := lv_entry ([.ref (bd 0 0), .int (nI i)]) (n := 2) (Nat.le_of_ble_eq_true rfl)
  rw [lg_entry_eq]
  generalize (lg_sl ([.ref (bd 0 0), .int (nI i)]) ++ List.replicate (2 - (lg_sl ([.ref (bd 0 0), .int (nI i)])).length) Slot.unset).toArray = ls at hl ⊢
  have hl : lv_has ls 2 [(0, .ref (bd 0 0)), (1, .int (nI i))] := hl
  have iRX8 : ∀ w ∈ wsX80, w ∈ wsX8_counted := by decide +kernel
  refine lv_aload_n hx hb dX8_counted_0 rfl (lv_at hl 0 rfl) ?_
  refine lv_iconst (v := nI 0) hx hb dX8_counted_1 (by decide) ?_
  refine q_put (C := RX8) (T := TX8) (N := 36) (ty := .int) (v := .int (nI 0)) hx hb hts iRX8 tyX8 tyX8_ok nmX8 hown hC.1 (hW.to rLV0) (hW.in rLV0) hS rfl 0 (by decide) (hts (.fieldLink RX8 100 "LogWeaveModel" "thrown" "I") (List.mem_of_getElem? (i := 1) (by decide +kernel))) rfl rfl (by decide +kernel) rfl rfl (Nat.le_of_ble_eq_true rfl) dX8_counted_2 (fun H1 locs hat hsz hoq hS => ?_)
  have hW := hW.upR 2 0 0 rfl rLV0 ((rLV0 (ρ := (qup ρ 2 0 0))).trans (by rw [qup_s]; rfl)) hat hoq
  have hW : rW G A (rT ρ) bd _ := hW
  refine lv_aload_n hx hb dX8_counted_5 rfl (lv_at hl 0 rfl) ?_
  refine lv_aload_n hx hb dX8_counted_6 rfl (lv_at hl 0 rfl) ?_
  refine lv_iload_n hx hb dX8_counted_7 rfl (lv_at hl 1 rfl) ?_
  refine q_v (va_runV (As := [.int (nI i)]) (rest := [.ref (bd 0 0)]) ⟨hx, hb, hml, hown, hts⟩ (m_rnoAlert0 l G A (rT ρ) bd hF i hi) (cwV 1 hts gX8_counted_X8_noAlert rfl rfl rfl (by decide +kernel) ⟨Nat.le_of_ble_eq_true rfl, Nat.le_of_ble_eq_true rfl⟩) ⟨rR.blind, qrecv hC (hW.to rLV0) rfl, rR.pre hC hW⟩ rfl rfl hl.1 rfl (lv_room (Nat.le_of_ble_eq_true rfl)) dX8_counted_8 ⟨Nat.le_of_ble_eq_true rfl, Nat.le_of_ble_eq_true rfl⟩) hS (fun _ h => h.elim) (fun locs hS => ?_)
  refine lv_iconst (v := nI 1) hx hb dX8_counted_11 (by decide) ?_
  refine q_v (va_runV (As := [.int (nI 0), .int (nI 1)]) (rest := []) ⟨hx, hb, hml, hown, hts⟩ (m_rfails0 l G A (rT ρ) bd hF 1 (rT_0 ρ)) (cwV 2 hts gX8_counted_X8_fails rfl rfl rfl (by decide +kernel) ⟨Nat.le_of_ble_eq_true rfl, Nat.le_of_ble_eq_true rfl⟩) ⟨rR.blind, qrecv hC (hW.to rLV0) rfl, rR.pre hC hW⟩ rfl rfl hl.1 rfl (lv_room (Nat.le_of_ble_eq_true rfl)) dX8_counted_12 ⟨Nat.le_of_ble_eq_true rfl, Nat.le_of_ble_eq_true rfl⟩) hS (fun _ h => h.elim) (fun locs hS => ?_)
  refine q_eq0 (tgt := 22) hx hb (by decide) dX8_counted_15 (by decide) (fun g1 => ?_) (fun g1 => (by omega))
  refine lv_aload_n hx hb dX8_counted_22 rfl (lv_at hl 0 rfl) ?_
  refine lv_iload_n hx hb dX8_counted_23 rfl (lv_at hl 1 rfl) ?_
  refine q_v (va_runV (As := [.int (nI i)]) (rest := []) ⟨hx, hb, hml, hown, hts⟩ (m_rcountNow l G A (rT ρ) bd hF i hi) (cwV 1 hts gX8_counted_X8_countNow rfl rfl rfl (by decide +kernel) ⟨Nat.le_of_ble_eq_true rfl, Nat.le_of_ble_eq_true rfl⟩) ⟨rR.blind, qrecv hC (hW.to rLV0) rfl, rR.pre hC hW⟩ rfl rfl hl.1 rfl (lv_room (Nat.le_of_ble_eq_true rfl)) dX8_counted_24 ⟨Nat.le_of_ble_eq_true rfl, Nat.le_of_ble_eq_true rfl⟩) hS (fun _ h => h.elim) (fun locs hS => ?_)
  exact W.iret hx hb hr (fun t ht _ => ⟨rfl, by rw [ht]; exact hW, hS.F ht⟩) hS.2.2 dX8_counted_27
set_option maxHeartbeats 4000000 in
set_option maxRecDepth 100000 in
theorem m_rcountedAnew (l : Launch) (G : QG) (A : Nat → Prop) (ρ bd : QSt) (hF : rWF (rT ρ)) (i : Nat) (hi : i < (rT ρ) 0 2) : Met l yX8_countedAnew wsX8_countedAnew ({ frames := 3, cells := 0, slots := 0, locals := 67 } : Room) (rR G A ρ bd [.ref (bd 0 0), .int (nI i)]) (qWV (some (.int (nI (qcnt (rT ρ) i)))) (rW G A (rT ρ) bd) A) 0 0 A := by
  refine Met.ofW (cc := cX8_countedAnew) (maxL := 2) (ret := (some .int)) (by decide) rfl ?_
  intro p e s m args below meth c s₁ B hml hv
  obtain ⟨rfl, hC, hW⟩ := hv
  have hx := B.exec
  have hb := B.bytes
  have hr := B.returns
  have hts := atoms_spec (ws := wsX8_countedAnew) B.pre
  have hown : s.vm.findClass RX8 = some m.cls := findClass_of_methodNamed B.named
  have hlocks := B.notSynchronized
  have hB := hF.1
  have hn := hF.n
  have hS : va_S A s.heap s.heap [] := va_S.rf
  have hl := lv_entry ([.ref (bd 0 0), .int (nI i)]) (n := 2) (Nat.le_of_ble_eq_true rfl)
  rw [lg_entry_eq]
  generalize (lg_sl ([.ref (bd 0 0), .int (nI i)]) ++ List.replicate (2 - (lg_sl ([.ref (bd 0 0), .int (nI i)])).length) Slot.unset).toArray = ls at hl ⊢
  have hl : lv_has ls 2 [(0, .ref (bd 0 0)), (1, .int (nI i))] := hl
  have iRX8 : ∀ w ∈ wsX80, w ∈ wsX8_countedAnew := by decide +kernel
  refine lv_aload_n hx hb dX8_countedAnew_0 rfl (lv_at hl 0 rfl) ?_
  refine lv_iload_n hx hb dX8_countedAnew_1 rfl (lv_at hl 1 rfl) ?_
  refine q_wv (va_runV (As := [.int (nI i)]) (rest := []) ⟨hx, hb, hml, hown, hts⟩ (m_rcounted l G A ρ bd hF i hi) (cwV 1 hts gX8_countedAnew_X8_counted rfl rfl rfl (by decide +kernel) ⟨Nat.le_of_ble_eq_true rfl, Nat.le_of_ble_eq_true rfl⟩) ⟨rR.blind, qrecv hC (hW.to rLV0) rfl, rR.pre hC hW⟩ rfl rfl hl.1 rfl (lv_room (Nat.le_of_ble_eq_true rfl)) dX8_countedAnew_2 ⟨Nat.le_of_ble_eq_true rfl, Nat.le_of_ble_eq_true rfl⟩) hS (fun _ h => h) (fun _ h => h) (fun H1 locs hW hz hk hS => ?_)
  exact W.iret hx hb hr (fun t ht _ => ⟨rfl, by rw [ht]; exact hW, hS.F ht⟩) hS.2.2 dX8_countedAnew_5
set_option maxHeartbeats 4000000 in
set_option maxRecDepth 100000 in
theorem m_rheldFor (l : Launch) (G : QG) (A : Nat → Prop) (ρ bd : QSt) (hF : rWF (rT ρ)) (i : Nat) (hi : i < (rT ρ) 0 2) : Met l yX8_heldFor wsX8_heldFor ({ frames := 2, cells := 0, slots := 0, locals := 43 } : Room) (rR G A ρ bd [.ref (bd 0 0), .int (nI i)]) (qWV (some (.int (nI (if (rT ρ) 131 i = 104 then (rT ρ) 133 i else 0)))) (rW G A (rT ρ) bd) A) 0 0 A := by
  refine Met.ofW (cc := cX8_heldFor) (maxL := 2) (ret := (some .int)) (by decide) rfl ?_
  intro p e s m args below meth c s₁ B hml hv
  obtain ⟨rfl, hC, hW⟩ := hv
  have hx := B.exec
  have hb := B.bytes
  have hr := B.returns
  have hts := atoms_spec (ws := wsX8_heldFor) B.pre
  have hown : s.vm.findClass RX8 = some m.cls := findClass_of_methodNamed B.named
  have hlocks := B.notSynchronized
  have hB := hF.1
  have hn := hF.n
  have hS : va_S A s.heap s.heap [] := va_S.rf
  have hl := lv_entry ([.ref (bd 0 0), .int (nI i)]) (n := 2) (Nat.le_of_ble_eq_true rfl)
  rw [lg_entry_eq]
  generalize (lg_sl ([.ref (bd 0 0), .int (nI i)]) ++ List.replicate (2 - (lg_sl ([.ref (bd 0 0), .int (nI i)])).length) Slot.unset).toArray = ls at hl ⊢
  have hl : lv_has ls 2 [(0, .ref (bd 0 0)), (1, .int (nI i))] := hl
  have iRX8 : ∀ w ∈ wsX80, w ∈ wsX8_heldFor := by decide +kernel
  refine lv_aload_n hx hb dX8_heldFor_0 rfl (lv_at hl 0 rfl) ?_
  refine lv_iconst (v := nI 0) hx hb dX8_heldFor_1 (by decide) ?_
  refine q_put (C := RX8) (T := TX8) (N := 36) (ty := .int) (v := .int (nI 0)) hx hb hts iRX8 tyX8 tyX8_ok nmX8 hown hC.1 (hW.to rLV0) (hW.in rLV0) hS rfl 0 (by decide) (hts (.fieldLink RX8 100 "LogWeaveModel" "thrown" "I") (List.mem_of_getElem? (i := 1) (by decide +kernel))) rfl rfl (by decide +kernel) rfl rfl (Nat.le_of_ble_eq_true rfl) dX8_heldFor_2 (fun H1 locs hat hsz hoq hS => ?_)
  have hW := hW.upR 2 0 0 rfl rLV0 ((rLV0 (ρ := (qup ρ 2 0 0))).trans (by rw [qup_s]; rfl)) hat hoq
  have hW : rW G A (rT ρ) bd _ := hW
  refine lv_aload_n hx hb dX8_heldFor_5 rfl (lv_at hl 0 rfl) ?_
  refine lv_aload_n hx hb dX8_heldFor_6 rfl (lv_at hl 0 rfl) ?_
  refine lv_iload_n hx hb dX8_heldFor_7 rfl (lv_at hl 1 rfl) ?_
  refine q_v (va_runV (As := [.int (nI i)]) (rest := [.ref (bd 0 0)]) ⟨hx, hb, hml, hown, hts⟩ (m_rnoAlert0 l G A (rT ρ) bd hF i hi) (cwV 1 hts gX8_heldFor_X8_noAlert rfl rfl rfl (by decide +kernel) ⟨Nat.le_of_ble_eq_true rfl, Nat.le_of_ble_eq_true rfl⟩) ⟨rR.blind, qrecv hC (hW.to rLV0) rfl, rR.pre hC hW⟩ rfl rfl hl.1 rfl (lv_room (Nat.le_of_ble_eq_true rfl)) dX8_heldFor_8 ⟨Nat.le_of_ble_eq_true rfl, Nat.le_of_ble_eq_true rfl⟩) hS (fun _ h => h.elim) (fun locs hS => ?_)
  refine lv_iconst (v := nI 1) hx hb dX8_heldFor_11 (by decide) ?_
  refine q_v (va_runV (As := [.int (nI 0), .int (nI 1)]) (rest := []) ⟨hx, hb, hml, hown, hts⟩ (m_rfails0 l G A (rT ρ) bd hF 1 (rT_0 ρ)) (cwV 2 hts gX8_heldFor_X8_fails rfl rfl rfl (by decide +kernel) ⟨Nat.le_of_ble_eq_true rfl, Nat.le_of_ble_eq_true rfl⟩) ⟨rR.blind, qrecv hC (hW.to rLV0) rfl, rR.pre hC hW⟩ rfl rfl hl.1 rfl (lv_room (Nat.le_of_ble_eq_true rfl)) dX8_heldFor_12 ⟨Nat.le_of_ble_eq_true rfl, Nat.le_of_ble_eq_true rfl⟩) hS (fun _ h => h.elim) (fun locs hS => ?_)
  refine q_ne0 (tgt := 29) hx hb (by decide) dX8_heldFor_15 (by decide) (fun g1 => (by omega)) (fun g1 => ?_)
  refine lv_aload_n hx hb dX8_heldFor_18 rfl (lv_at hl 0 rfl) ?_
  refine q_get (C := RX8) (T := TX8) (N := 36) hx hb hts iRX8 hown hC.1 (hW.to rLV0) rfl 22 (by decide) (hts (.fieldLink RX8 63 "LogWeaveModel" "alert" "[C") (List.mem_of_getElem? (i := 2) (by decide +kernel))) rfl (v := .ref (bd 18 0)) rfl dX8_heldFor_19 ?_
  refine lv_iload_n hx hb dX8_heldFor_22 rfl (lv_at hl 1 rfl) ?_
  refine r_cald hx hb hC.1 (hW.to rLV18) 3 rfl (i := i) (by omega) (by decide) (v := nI ((rT ρ) 131 i)) rfl dX8_heldFor_23 ?_
  refine lv_bipush (v := nI 104) hx hb dX8_heldFor_24 (by decide) ?_
  refine q_eq (tgt := 33) hx hb (q31 (hB _ _)) (by decide) dX8_heldFor_26 (by decide) (fun g2 => ?_) (fun g2 => ?_)
  · skip
    refine lv_aload_n hx hb dX8_heldFor_33 rfl (lv_at hl 0 rfl) ?_
    refine q_get (C := RX8) (T := TX8) (N := 36) hx hb hts iRX8 hown hC.1 (hW.to rLV0) rfl 23 (by decide) (hts (.fieldLink RX8 66 "LogWeaveModel" "left" "[I") (List.mem_of_getElem? (i := 3) (by decide +kernel))) rfl (v := .ref (bd 19 0)) rfl dX8_heldFor_34 ?_
    refine lv_iload_n hx hb dX8_heldFor_37 rfl (lv_at hl 1 rfl) ?_
    refine r_iald hx hb hC.1 (hW.to rLV19) 1 rfl (i := i) (by omega) (by decide) (v := nI ((rT ρ) 133 i)) rfl dX8_heldFor_38 ?_
    exact W.iret hx hb hr (fun t ht _ => ⟨by rw [if_pos g2], by rw [ht]; exact hW, hS.F ht⟩) hS.2.2 dX8_heldFor_39
  · skip
    refine lv_iconst (v := nI 0) hx hb dX8_heldFor_29 (by decide) ?_
    refine lv_goto (tgt := 39) hx hb dX8_heldFor_30 (by decide) ?_
    exact W.iret hx hb hr (fun t ht _ => ⟨by rw [if_neg g2], by rw [ht]; exact hW, hS.F ht⟩) hS.2.2 dX8_heldFor_39
set_option maxHeartbeats 4000000 in
set_option maxRecDepth 100000 in
theorem m_rstandsOn (l : Launch) (G : QG) (A : Nat → Prop) (ρ bd : QSt) (hF : rWF (rT ρ)) (f i : Nat) (hf : f < (rT ρ) 0 3) (hi : i < (rT ρ) 0 0) : Met l yX8_standsOn wsX8_standsOn ({ frames := 2, cells := 0, slots := 0, locals := 43 } : Room) (rR G A ρ bd [.ref (bd 0 0), .int (nI f), .int (nI i)]) (qWV (some (.int (nI (qB (ron (rT ρ) f i))))) (rW G A (rT ρ) bd) A) 0 0 A := by
  refine Met.ofW (cc := cX8_standsOn) (maxL := 3) (ret := (some .boolean)) (by decide) rfl ?_
  intro p e s m args below meth c s₁ B hml hv
  obtain ⟨rfl, hC, hW⟩ := hv
  have hx := B.exec
  have hb := B.bytes
  have hr := B.returns
  have hts := atoms_spec (ws := wsX8_standsOn) B.pre
  have hown : s.vm.findClass RX8 = some m.cls := findClass_of_methodNamed B.named
  have hlocks := B.notSynchronized
  have hB := hF.1
  have hn := hF.n
  have hS : va_S A s.heap s.heap [] := va_S.rf
  have hl := lv_entry ([.ref (bd 0 0), .int (nI f), .int (nI i)]) (n := 3) (Nat.le_of_ble_eq_true rfl)
  rw [lg_entry_eq]
  generalize (lg_sl ([.ref (bd 0 0), .int (nI f), .int (nI i)]) ++ List.replicate (3 - (lg_sl ([.ref (bd 0 0), .int (nI f), .int (nI i)])).length) Slot.unset).toArray = ls at hl ⊢
  have hl : lv_has ls 3 [(0, .ref (bd 0 0)), (1, .int (nI f)), (2, .int (nI i))] := hl
  have iRX8 : ∀ w ∈ wsX80, w ∈ wsX8_standsOn := by decide +kernel
  refine lv_aload_n hx hb dX8_standsOn_0 rfl (lv_at hl 0 rfl) ?_
  refine lv_iconst (v := nI 0) hx hb dX8_standsOn_1 (by decide) ?_
  refine q_put (C := RX8) (T := TX8) (N := 36) (ty := .int) (v := .int (nI 0)) hx hb hts iRX8 tyX8 tyX8_ok nmX8 hown hC.1 (hW.to rLV0) (hW.in rLV0) hS rfl 0 (by decide) (hts (.fieldLink RX8 100 "LogWeaveModel" "thrown" "I") (List.mem_of_getElem? (i := 1) (by decide +kernel))) rfl rfl (by decide +kernel) rfl rfl (Nat.le_of_ble_eq_true rfl) dX8_standsOn_2 (fun H1 locs hat hsz hoq hS => ?_)
  have hW := hW.upR 2 0 0 rfl rLV0 ((rLV0 (ρ := (qup ρ 2 0 0))).trans (by rw [qup_s]; rfl)) hat hoq
  have hW : rW G A (rT ρ) bd _ := hW
  refine lv_aload_n hx hb dX8_standsOn_5 rfl (lv_at hl 0 rfl) ?_
  refine lv_aload_n hx hb dX8_standsOn_6 rfl (lv_at hl 0 rfl) ?_
  refine lv_iload_n hx hb dX8_standsOn_7 rfl (lv_at hl 1 rfl) ?_
  refine q_v (va_runV (As := [.int (nI f)]) (rest := [.ref (bd 0 0)]) ⟨hx, hb, hml, hown, hts⟩ (m_rnoFiring0 l G A (rT ρ) bd hF f hf) (cwV 1 hts gX8_standsOn_X8_noFiring rfl rfl rfl (by decide +kernel) ⟨Nat.le_of_ble_eq_true rfl, Nat.le_of_ble_eq_true rfl⟩) ⟨rR.blind, qrecv hC (hW.to rLV0) rfl, rR.pre hC hW⟩ rfl rfl hl.1 rfl (lv_room (Nat.le_of_ble_eq_true rfl)) dX8_standsOn_8 ⟨Nat.le_of_ble_eq_true rfl, Nat.le_of_ble_eq_true rfl⟩) hS (fun _ h => h.elim) (fun locs hS => ?_)
  refine q_ne0 (tgt := 22) hx hb (by decide) dX8_standsOn_11 (by decide) (fun g1 => (by omega)) (fun g1 => ?_)
  refine lv_aload_n hx hb dX8_standsOn_14 rfl (lv_at hl 0 rfl) ?_
  refine lv_iload_n hx hb dX8_standsOn_15 rfl (lv_at hl 2 rfl) ?_
  refine q_v (va_runV (As := [.int (nI i)]) (rest := [.ref (bd 0 0)]) ⟨hx, hb, hml, hown, hts⟩ (m_rnoLine0 l G A (rT ρ) bd hF i hi) (cwV 1 hts gX8_standsOn_X8_noLine rfl rfl rfl (by decide +kernel) ⟨Nat.le_of_ble_eq_true rfl, Nat.le_of_ble_eq_true rfl⟩) ⟨rR.blind, qrecv hC (hW.to rLV0) rfl, rR.pre hC hW⟩ rfl rfl hl.1 rfl (lv_room (Nat.le_of_ble_eq_true rfl)) dX8_standsOn_16 ⟨Nat.le_of_ble_eq_true rfl, Nat.le_of_ble_eq_true rfl⟩) hS (fun _ h => h.elim) (fun locs hS => ?_)
  refine q_eq0 (tgt := 26) hx hb (by decide) dX8_standsOn_19 (by decide) (fun g2 => ?_) (fun g2 => (by omega))
  refine lv_iconst (v := nI 0) hx hb dX8_standsOn_26 (by decide) ?_
  refine lv_iconst (v := nI 1) hx hb dX8_standsOn_27 (by decide) ?_
  refine q_v (va_runV (As := [.int (nI 0), .int (nI 1)]) (rest := []) ⟨hx, hb, hml, hown, hts⟩ (m_rfails0 l G A (rT ρ) bd hF 1 (rT_0 ρ)) (cwV 2 hts gX8_standsOn_X8_fails rfl rfl rfl (by decide +kernel) ⟨Nat.le_of_ble_eq_true rfl, Nat.le_of_ble_eq_true rfl⟩) ⟨rR.blind, qrecv hC (hW.to rLV0) rfl, rR.pre hC hW⟩ rfl rfl hl.1 rfl (lv_room (Nat.le_of_ble_eq_true rfl)) dX8_standsOn_28 ⟨Nat.le_of_ble_eq_true rfl, Nat.le_of_ble_eq_true rfl⟩) hS (fun _ h => h.elim) (fun locs hS => ?_)
  refine q_ne0 (tgt := 47) hx hb (by decide) dX8_standsOn_31 (by decide) (fun g3 => (by omega)) (fun g3 => ?_)
  refine lv_aload_n hx hb dX8_standsOn_34 rfl (lv_at hl 0 rfl) ?_
  refine lv_iload_n hx hb dX8_standsOn_35 rfl (lv_at hl 1 rfl) ?_
  refine lv_iload_n hx hb dX8_standsOn_36 rfl (lv_at hl 2 rfl) ?_
  refine q_v (va_runV (As := [.int (nI f), .int (nI i)]) (rest := []) ⟨hx, hb, hml, hown, hts⟩ (m_risOn l G A (rT ρ) bd hF f i hf hi) (cwV 2 hts gX8_standsOn_X8_isOn rfl rfl rfl (by decide +kernel) ⟨Nat.le_of_ble_eq_true rfl, Nat.le_of_ble_eq_true rfl⟩) ⟨rR.blind, qrecv hC (hW.to rLV0) rfl, rR.pre hC hW⟩ rfl rfl hl.1 rfl (lv_room (Nat.le_of_ble_eq_true rfl)) dX8_standsOn_37 ⟨Nat.le_of_ble_eq_true rfl, Nat.le_of_ble_eq_true rfl⟩) hS (fun _ h => h.elim) (fun locs hS => ?_)
  refine q_eq0 (tgt := 47) hx hb q_31B dX8_standsOn_40 (by decide) (fun g4 => ?_) (fun g4 => ?_)
  · skip
    refine lv_iconst (v := nI 0) hx hb dX8_standsOn_47 (by decide) ?_
    exact W.zret (v := nI 0) hx hb hr (rfl) (fun t ht _ => ⟨by rw [g4], by rw [ht]; exact hW, hS.F ht⟩) hS.2.2 dX8_standsOn_48
  · skip
    refine lv_iconst (v := nI 1) hx hb dX8_standsOn_43 (by decide) ?_
    refine lv_goto (tgt := 48) hx hb dX8_standsOn_44 (by decide) ?_
    exact W.zret (v := nI 1) hx hb hr (rfl) (fun t ht _ => ⟨by rw [qB_t (Classical.byContradiction fun h => g4 (qB_f h))], by rw [ht]; exact hW, hS.F ht⟩) hS.2.2 dX8_standsOn_48
set_option maxHeartbeats 4000000 in
set_option maxRecDepth 100000 in
theorem m_risGuarded (l : Launch) (G : QG) (A : Nat → Prop) (ρ bd : QSt) (hF : rWF (rT ρ)) (i : Nat) (hi : i < (rT ρ) 0 0) : Met l yX8_isGuarded wsX8_isGuarded ({ frames := 2, cells := 0, slots := 0, locals := 46 } : Room) (rR G A ρ bd [.ref (bd 0 0), .int (nI i)]) (qWV (some (.int (nI (rgdN (rT ρ) i)))) (rW G A (rT ρ) bd) A) 0 0 A := by
  refine Met.ofW (cc := cX8_isGuarded) (maxL := 2) (ret := (some .boolean)) (by decide) rfl ?_
  intro p e s m args below meth c s₁ B hml hv
  obtain ⟨rfl, hC, hW⟩ := hv
  have hx := B.exec
  have hb := B.bytes
  have hr := B.returns
  have hts := atoms_spec (ws := wsX8_isGuarded) B.pre
  have hown : s.vm.findClass RX8 = some m.cls := findClass_of_methodNamed B.named
  have hlocks := B.notSynchronized
  have hB := hF.1
  have hn := hF.n
  have hS : va_S A s.heap s.heap [] := va_S.rf
  have hl := lv_entry ([.ref (bd 0 0), .int (nI i)]) (n := 2) (Nat.le_of_ble_eq_true rfl)
  rw [lg_entry_eq]
  generalize (lg_sl ([.ref (bd 0 0), .int (nI i)]) ++ List.replicate (2 - (lg_sl ([.ref (bd 0 0), .int (nI i)])).length) Slot.unset).toArray = ls at hl ⊢
  have hl : lv_has ls 2 [(0, .ref (bd 0 0)), (1, .int (nI i))] := hl
  have iRX8 : ∀ w ∈ wsX80, w ∈ wsX8_isGuarded := by decide +kernel
  refine lv_aload_n hx hb dX8_isGuarded_0 rfl (lv_at hl 0 rfl) ?_
  refine lv_iconst (v := nI 0) hx hb dX8_isGuarded_1 (by decide) ?_
  refine q_put (C := RX8) (T := TX8) (N := 36) (ty := .int) (v := .int (nI 0)) hx hb hts iRX8 tyX8 tyX8_ok nmX8 hown hC.1 (hW.to rLV0) (hW.in rLV0) hS rfl 0 (by decide) (hts (.fieldLink RX8 100 "LogWeaveModel" "thrown" "I") (List.mem_of_getElem? (i := 1) (by decide +kernel))) rfl rfl (by decide +kernel) rfl rfl (Nat.le_of_ble_eq_true rfl) dX8_isGuarded_2 (fun H1 locs hat hsz hoq hS => ?_)
  have hW := hW.upR 2 0 0 rfl rLV0 ((rLV0 (ρ := (qup ρ 2 0 0))).trans (by rw [qup_s]; rfl)) hat hoq
  have hW : rW G A (rT ρ) bd _ := hW
  refine lv_aload_n hx hb dX8_isGuarded_5 rfl (lv_at hl 0 rfl) ?_
  refine lv_aload_n hx hb dX8_isGuarded_6 rfl (lv_at hl 0 rfl) ?_
  refine lv_iload_n hx hb dX8_isGuarded_7 rfl (lv_at hl 1 rfl) ?_
  refine q_v (va_runV (As := [.int (nI i)]) (rest := [.ref (bd 0 0)]) ⟨hx, hb, hml, hown, hts⟩ (m_rnoLine0 l G A (rT ρ) bd hF i hi) (cwV 1 hts gX8_isGuarded_X8_noLine rfl rfl rfl (by decide +kernel) ⟨Nat.le_of_ble_eq_true rfl, Nat.le_of_ble_eq_true rfl⟩) ⟨rR.blind, qrecv hC (hW.to rLV0) rfl, rR.pre hC hW⟩ rfl rfl hl.1 rfl (lv_room (Nat.le_of_ble_eq_true rfl)) dX8_isGuarded_8 ⟨Nat.le_of_ble_eq_true rfl, Nat.le_of_ble_eq_true rfl⟩) hS (fun _ h => h.elim) (fun locs hS => ?_)
  refine lv_iconst (v := nI 1) hx hb dX8_isGuarded_11 (by decide) ?_
  refine q_v (va_runV (As := [.int (nI 0), .int (nI 1)]) (rest := []) ⟨hx, hb, hml, hown, hts⟩ (m_rfails0 l G A (rT ρ) bd hF 1 (rT_0 ρ)) (cwV 2 hts gX8_isGuarded_X8_fails rfl rfl rfl (by decide +kernel) ⟨Nat.le_of_ble_eq_true rfl, Nat.le_of_ble_eq_true rfl⟩) ⟨rR.blind, qrecv hC (hW.to rLV0) rfl, rR.pre hC hW⟩ rfl rfl hl.1 rfl (lv_room (Nat.le_of_ble_eq_true rfl)) dX8_isGuarded_12 ⟨Nat.le_of_ble_eq_true rfl, Nat.le_of_ble_eq_true rfl⟩) hS (fun _ h => h.elim) (fun locs hS => ?_)
  refine q_ne0 (tgt := 30) hx hb (by decide) dX8_isGuarded_15 (by decide) (fun g1 => (by omega)) (fun g1 => ?_)
  refine lv_aload_n hx hb dX8_isGuarded_18 rfl (lv_at hl 0 rfl) ?_
  refine lv_iload_n hx hb dX8_isGuarded_19 rfl (lv_at hl 1 rfl) ?_
  refine q_v (va_runV (As := [.int (nI i)]) (rest := []) ⟨hx, hb, hml, hown, hts⟩ (m_rguarded l G A (rT ρ) bd hF i hi) (cwV 1 hts gX8_isGuarded_X8_isGuardedNow rfl rfl rfl (by decide +kernel) ⟨Nat.le_of_ble_eq_true rfl, Nat.le_of_ble_eq_true rfl⟩) ⟨rR.blind, qrecv hC (hW.to rLV0) rfl, rR.pre hC hW⟩ rfl rfl hl.1 rfl (lv_room (Nat.le_of_ble_eq_true rfl)) dX8_isGuarded_20 ⟨Nat.le_of_ble_eq_true rfl, Nat.le_of_ble_eq_true rfl⟩) hS (fun _ h => h.elim) (fun locs hS => ?_)
  have hg9 := rgdN_le (rT ρ) i
  refine q_eq0 (tgt := 30) hx hb (by omega) dX8_isGuarded_23 (by decide) (fun g2 => ?_) (fun g2 => ?_)
  · skip
    refine lv_iconst (v := nI 0) hx hb dX8_isGuarded_30 (by decide) ?_
    exact W.zret (v := nI 0) hx hb hr (rfl) (fun t ht _ => ⟨by rw [g2], by rw [ht]; exact hW, hS.F ht⟩) hS.2.2 dX8_isGuarded_31
  · skip
    refine lv_iconst (v := nI 1) hx hb dX8_isGuarded_26 (by decide) ?_
    refine lv_goto (tgt := 31) hx hb dX8_isGuarded_27 (by decide) ?_
    exact W.zret (v := nI 1) hx hb hr (rfl) (fun t ht _ => ⟨by rw [show rgdN (rT ρ) i = 1 by omega], by rw [ht]; exact hW, hS.F ht⟩) hS.2.2 dX8_isGuarded_31
set_option maxHeartbeats 4000000 in
set_option maxRecDepth 100000 in
theorem m_risSound (l : Launch) (G : QG) (A : Nat → Prop) (ρ bd : QSt) (hF : rWF (rT ρ))  : Met l yX8_isSound wsX8_isSound ({ frames := 0, cells := 0, slots := 0, locals := 0 } : Room) (rR G A ρ bd [.ref (bd 0 0)]) (qWV (some (.int (nI 1))) (rW G A (rT ρ) bd) A) 0 0 A := by
  refine Met.ofW (cc := cX8_isSound) (maxL := 1) (ret := (some .boolean)) (by decide) rfl ?_
  intro p e s m args below meth c s₁ B hml hv
  obtain ⟨rfl, hC, hW⟩ := hv
  have hx := B.exec
  have hb := B.bytes
  have hr := B.returns
  have hts := atoms_spec (ws := wsX8_isSound) B.pre
  have hown : s.vm.findClass RX8 = some m.cls := findClass_of_methodNamed B.named
  have hlocks := B.notSynchronized
  have hB := hF.1
  have hn := hF.n
  have hS : va_S A s.heap s.heap [] := va_S.rf
  have hl := lv_entry ([.ref (bd 0 0)]) (n := 1) (Nat.le_of_ble_eq_true rfl)
  rw [lg_entry_eq]
  generalize (lg_sl ([.ref (bd 0 0)]) ++ List.replicate (1 - (lg_sl ([.ref (bd 0 0)])).length) Slot.unset).toArray = ls at hl ⊢
  have hl : lv_has ls 1 [(0, .ref (bd 0 0))] := hl
  have iRX8 : ∀ w ∈ wsX80, w ∈ wsX8_isSound := by decide +kernel
  refine lv_aload_n hx hb dX8_isSound_0 rfl (lv_at hl 0 rfl) ?_
  refine lv_iconst (v := nI 0) hx hb dX8_isSound_1 (by decide) ?_
  refine q_put (C := RX8) (T := TX8) (N := 36) (ty := .int) (v := .int (nI 0)) hx hb hts iRX8 tyX8 tyX8_ok nmX8 hown hC.1 (hW.to rLV0) (hW.in rLV0) hS rfl 0 (by decide) (hts (.fieldLink RX8 100 "LogWeaveModel" "thrown" "I") (List.mem_of_getElem? (i := 1) (by decide +kernel))) rfl rfl (by decide +kernel) rfl rfl (Nat.le_of_ble_eq_true rfl) dX8_isSound_2 (fun H1 locs hat hsz hoq hS => ?_)
  have hW := hW.upR 2 0 0 rfl rLV0 ((rLV0 (ρ := (qup ρ 2 0 0))).trans (by rw [qup_s]; rfl)) hat hoq
  have hW : rW G A (rT ρ) bd _ := hW
  refine lv_iconst (v := nI 1) hx hb dX8_isSound_5 (by decide) ?_
  exact W.zret (v := nI 1) hx hb hr (rfl) (fun t ht _ => ⟨rfl, by rw [ht]; exact hW, hS.F ht⟩) hS.2.2 dX8_isSound_6
