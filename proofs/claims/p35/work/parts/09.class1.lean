set_option maxHeartbeats 4000000 in
set_option maxRecDepth 100000 in
theorem m_isWithin (l : Launch) (x a b : Int32) : Met l yX7_isWithin wsX7_isWithin ({ frames := 0, cells := 0, slots := 0, locals := 0 } : Room) (qU [.int (x), .int (a), .int (b)]) (qPV (some (.int (nI (qB (a ≤ x ∧ x ≤ b)))))) 0 0 (fun _ => False) := by
  refine Met.ofW (cc := cX7_isWithin) (maxL := 3) (ret := (some .boolean)) (by decide) rfl ?_
  intro p e s m args below meth c s₁ B hml hv
  obtain ⟨rfl, -⟩ := hv
  have hx := B.exec
  have hb := B.bytes
  have hr := B.returns
  have hts := atoms_spec (ws := wsX7_isWithin) B.pre
  have hown : s.vm.findClass RX7 = some m.cls := findClass_of_methodNamed B.named
  have hlocks := B.notSynchronized
  have hS : va_S (fun _ => False) s.heap s.heap [] := va_S.rf
  have hl := lv_entry ([.int (x), .int (a), .int (b)]) (n := 3) (Nat.le_of_ble_eq_true rfl)
  rw [lg_entry_eq]
  generalize (lg_sl ([.int (x), .int (a), .int (b)]) ++ List.replicate (3 - (lg_sl ([.int (x), .int (a), .int (b)])).length) Slot.unset).toArray = ls at hl ⊢
  have hl : lv_has ls 3 [(0, .int (x)), (1, .int (a)), (2, .int (b))] := hl
  refine lv_iload_n hx hb dX7_isWithin_0 rfl (lv_at hl 0 rfl) ?_
  refine lv_iload_n hx hb dX7_isWithin_1 rfl (lv_at hl 1 rfl) ?_
  refine lv_icmp_lt (tgt := 14) hx hb dX7_isWithin_2 (by decide) (fun c1 => ?_) (fun c1 => ?_)
  · skip
    refine lv_iconst (v := nI 0) hx hb dX7_isWithin_14 (by decide) ?_
    exact W.zret (v := nI 0) hx hb hr rfl (fun t ht _ => ⟨by rw [qB_f (by exact fun h => (Int32.not_lt.mpr h.1) c1)], ht⟩) hS.2.2 dX7_isWithin_15
  · skip
    refine lv_iload_n hx hb dX7_isWithin_5 rfl (lv_at hl 0 rfl) ?_
    refine lv_iload_n hx hb dX7_isWithin_6 rfl (lv_at hl 2 rfl) ?_
    refine lv_icmp_gt (tgt := 14) hx hb dX7_isWithin_7 (by decide) (fun c2 => ?_) (fun c2 => ?_)
    · skip
      refine lv_iconst (v := nI 0) hx hb dX7_isWithin_14 (by decide) ?_
      exact W.zret (v := nI 0) hx hb hr rfl (fun t ht _ => ⟨by rw [qB_f (by exact fun h => (Int32.not_lt.mpr h.2) c2)], ht⟩) hS.2.2 dX7_isWithin_15
    · skip
      refine lv_iconst (v := nI 1) hx hb dX7_isWithin_10 (by decide) ?_
      refine lv_goto (tgt := 15) hx hb dX7_isWithin_11 (by decide) ?_
      exact W.zret (v := nI 1) hx hb hr rfl (fun t ht _ => ⟨by rw [qB_t ⟨Int32.not_lt.mp c1, Int32.not_lt.mp c2⟩], ht⟩) hS.2.2 dX7_isWithin_15
set_option maxHeartbeats 4000000 in
set_option maxRecDepth 100000 in
theorem m_isSource (l : Launch) (x : Int32) : Met l yX7_isSource wsX7_isSource ({ frames := 1, cells := 0, slots := 0, locals := 22 } : Room) (qU [.int (x)]) (qPV (some (.int (nI (qB (nI 0 ≤ x ∧ x ≤ nI 3)))))) 0 0 (fun _ => False) := by
  refine Met.ofW (cc := cX7_isSource) (maxL := 1) (ret := (some .boolean)) (by decide) rfl ?_
  intro p e s m args below meth c s₁ B hml hv
  obtain ⟨rfl, -⟩ := hv
  have hx := B.exec
  have hb := B.bytes
  have hr := B.returns
  have hts := atoms_spec (ws := wsX7_isSource) B.pre
  have hown : s.vm.findClass RX7 = some m.cls := findClass_of_methodNamed B.named
  have hlocks := B.notSynchronized
  have hS : va_S (fun _ => False) s.heap s.heap [] := va_S.rf
  have hl := lv_entry ([.int (x)]) (n := 1) (Nat.le_of_ble_eq_true rfl)
  rw [lg_entry_eq]
  generalize (lg_sl ([.int (x)]) ++ List.replicate (1 - (lg_sl ([.int (x)])).length) Slot.unset).toArray = ls at hl ⊢
  have hl : lv_has ls 1 [(0, .int (x))] := hl
  refine lv_iload_n hx hb dX7_isSource_0 rfl (lv_at hl 0 rfl) ?_
  refine lv_iconst (v := nI 0) hx hb dX7_isSource_1 (by decide) ?_
  refine lv_iconst (v := nI 3) hx hb dX7_isSource_2 (by decide) ?_
  refine q_v (va_runS (As := [.int (x), .int (nI 0), .int (nI 3)]) (rest := []) ⟨hx, hb, hml, hown, hts⟩ (m_isWithin l x (nI 0) (nI 3)) (va_cwS 3 hts gX7_isSource_X7_isWithin rfl rfl rfl (by decide +kernel) ⟨Nat.le_of_ble_eq_true rfl, Nat.le_of_ble_eq_true rfl⟩) ⟨qU.blind, qU.pre⟩ rfl rfl hl.1 rfl (lv_room (Nat.le_of_ble_eq_true rfl)) dX7_isSource_3 ⟨Nat.le_of_ble_eq_true rfl, Nat.le_of_ble_eq_true rfl⟩) hS (fun _ h => h.elim) (fun locs hS => ?_)
  exact W.zret hx hb hr (q_nbool _ qB_le) (fun t ht _ => ⟨rfl, ht⟩) hS.2.2 dX7_isSource_6
set_option maxHeartbeats 4000000 in
set_option maxRecDepth 100000 in
theorem m_isRank (l : Launch) (x : Int32) : Met l yX7_isRank wsX7_isRank ({ frames := 1, cells := 0, slots := 0, locals := 22 } : Room) (qU [.int (x)]) (qPV (some (.int (nI (qB (nI 0 ≤ x ∧ x ≤ nI 4)))))) 0 0 (fun _ => False) := by
  refine Met.ofW (cc := cX7_isRank) (maxL := 1) (ret := (some .boolean)) (by decide) rfl ?_
  intro p e s m args below meth c s₁ B hml hv
  obtain ⟨rfl, -⟩ := hv
  have hx := B.exec
  have hb := B.bytes
  have hr := B.returns
  have hts := atoms_spec (ws := wsX7_isRank) B.pre
  have hown : s.vm.findClass RX7 = some m.cls := findClass_of_methodNamed B.named
  have hlocks := B.notSynchronized
  have hS : va_S (fun _ => False) s.heap s.heap [] := va_S.rf
  have hl := lv_entry ([.int (x)]) (n := 1) (Nat.le_of_ble_eq_true rfl)
  rw [lg_entry_eq]
  generalize (lg_sl ([.int (x)]) ++ List.replicate (1 - (lg_sl ([.int (x)])).length) Slot.unset).toArray = ls at hl ⊢
  have hl : lv_has ls 1 [(0, .int (x))] := hl
  refine lv_iload_n hx hb dX7_isRank_0 rfl (lv_at hl 0 rfl) ?_
  refine lv_iconst (v := nI 0) hx hb dX7_isRank_1 (by decide) ?_
  refine lv_iconst (v := nI 4) hx hb dX7_isRank_2 (by decide) ?_
  refine q_v (va_runS (As := [.int (x), .int (nI 0), .int (nI 4)]) (rest := []) ⟨hx, hb, hml, hown, hts⟩ (m_isWithin l x (nI 0) (nI 4)) (va_cwS 3 hts gX7_isRank_X7_isWithin rfl rfl rfl (by decide +kernel) ⟨Nat.le_of_ble_eq_true rfl, Nat.le_of_ble_eq_true rfl⟩) ⟨qU.blind, qU.pre⟩ rfl rfl hl.1 rfl (lv_room (Nat.le_of_ble_eq_true rfl)) dX7_isRank_3 ⟨Nat.le_of_ble_eq_true rfl, Nat.le_of_ble_eq_true rfl⟩) hS (fun _ h => h.elim) (fun locs hS => ?_)
  exact W.zret hx hb hr (q_nbool _ qB_le) (fun t ht _ => ⟨rfl, ht⟩) hS.2.2 dX7_isRank_6
set_option maxHeartbeats 4000000 in
set_option maxRecDepth 100000 in
theorem m_isWord (l : Launch) (x : Int32) : Met l yX7_isWord wsX7_isWord ({ frames := 1, cells := 0, slots := 0, locals := 22 } : Room) (qU [.int (x)]) (qPV (some (.int (nI (qB (nI 0 ≤ x ∧ x ≤ nI 99)))))) 0 0 (fun _ => False) := by
  refine Met.ofW (cc := cX7_isWord) (maxL := 1) (ret := (some .boolean)) (by decide) rfl ?_
  intro p e s m args below meth c s₁ B hml hv
  obtain ⟨rfl, -⟩ := hv
  have hx := B.exec
  have hb := B.bytes
  have hr := B.returns
  have hts := atoms_spec (ws := wsX7_isWord) B.pre
  have hown : s.vm.findClass RX7 = some m.cls := findClass_of_methodNamed B.named
  have hlocks := B.notSynchronized
  have hS : va_S (fun _ => False) s.heap s.heap [] := va_S.rf
  have hl := lv_entry ([.int (x)]) (n := 1) (Nat.le_of_ble_eq_true rfl)
  rw [lg_entry_eq]
  generalize (lg_sl ([.int (x)]) ++ List.replicate (1 - (lg_sl ([.int (x)])).length) Slot.unset).toArray = ls at hl ⊢
  have hl : lv_has ls 1 [(0, .int (x))] := hl
  refine lv_iload_n hx hb dX7_isWord_0 rfl (lv_at hl 0 rfl) ?_
  refine lv_iconst (v := nI 0) hx hb dX7_isWord_1 (by decide) ?_
  refine lv_bipush (v := nI 99) hx hb dX7_isWord_2 (by decide) ?_
  refine q_v (va_runS (As := [.int (x), .int (nI 0), .int (nI 99)]) (rest := []) ⟨hx, hb, hml, hown, hts⟩ (m_isWithin l x (nI 0) (nI 99)) (va_cwS 3 hts gX7_isWord_X7_isWithin rfl rfl rfl (by decide +kernel) ⟨Nat.le_of_ble_eq_true rfl, Nat.le_of_ble_eq_true rfl⟩) ⟨qU.blind, qU.pre⟩ rfl rfl hl.1 rfl (lv_room (Nat.le_of_ble_eq_true rfl)) dX7_isWord_4 ⟨Nat.le_of_ble_eq_true rfl, Nat.le_of_ble_eq_true rfl⟩) hS (fun _ h => h.elim) (fun locs hS => ?_)
  exact W.zret hx hb hr (q_nbool _ qB_le) (fun t ht _ => ⟨rfl, ht⟩) hS.2.2 dX7_isWord_7
set_option maxHeartbeats 4000000 in
set_option maxRecDepth 100000 in
theorem m_at (l : Launch) (G : QG) (a : Nat) (f : Nat → Int32) (k : Nat) (hk : k < 3) : Met l yX6_at wsX6_at ({ frames := 0, cells := 0, slots := 0, locals := 0 } : Room) (qO G [(a, .inr (9, [.int (f 0), .int (f 1), .int (f 2)]))] [.ref (a), .int (nI k)]) (qPV (some (.int (f k)))) 0 0 (fun _ => False) := by
  refine Met.ofW (cc := cX6_at) (maxL := 2) (ret := (some .int)) (by decide) rfl ?_
  intro p e s m args below meth c s₁ B hml hv
  obtain ⟨rfl, hC, hP⟩ := hv
  have hx := B.exec
  have hb := B.bytes
  have hr := B.returns
  have hts := atoms_spec (ws := wsX6_at) B.pre
  have hown : s.vm.findClass RX6 = some m.cls := findClass_of_methodNamed B.named
  have hlocks := B.notSynchronized
  have hS : va_S (fun _ => False) s.heap s.heap [] := va_S.rf
  have hl := lv_entry ([.ref (a), .int (nI k)]) (n := 2) (Nat.le_of_ble_eq_true rfl)
  rw [lg_entry_eq]
  generalize (lg_sl ([.ref (a), .int (nI k)]) ++ List.replicate (2 - (lg_sl ([.ref (a), .int (nI k)])).length) Slot.unset).toArray = ls at hl ⊢
  have hl : lv_has ls 2 [(0, .ref (a)), (1, .int (nI k))] := hl
  have iRX6 : ∀ w ∈ wsX60, w ∈ wsX6_at := by decide +kernel
  refine lv_iload_n hx hb dX6_at_0 rfl (lv_at hl 1 rfl) ?_
  refine q_ne0 (tgt := 9) hx hb (by omega) dX6_at_1 (by decide) (fun c1 => ?_) (fun c1 => ?_)
  · skip
    refine lv_iload_n hx hb dX6_at_9 rfl (lv_at hl 1 rfl) ?_
    refine lv_iconst (v := nI 1) hx hb dX6_at_10 (by decide) ?_
    refine q_ne (tgt := 21) hx hb (by omega) (by decide) dX6_at_11 (by decide) (fun c2 => ?_) (fun c2 => ?_)
    · skip
      refine lv_aload_n hx hb dX6_at_21 rfl (lv_at hl 0 rfl) ?_
      refine q_get (C := RX6) (T := TX6) (N := 3) hx hb hts iRX6 hown hC.1 (hP 0 _ rfl) rfl 2 (by decide) (hts (.fieldLink RX6 18 "LogWeave$Words" "third" "I") (List.mem_of_getElem? (i := 3) (by decide +kernel))) rfl (v := .int (f 2)) rfl dX6_at_22 ?_
      exact W.iret hx hb hr (fun t ht _ => ⟨by rw [show k = 2 by omega], ht⟩) hS.2.2 dX6_at_25
    · skip
      refine lv_aload_n hx hb dX6_at_14 rfl (lv_at hl 0 rfl) ?_
      refine q_get (C := RX6) (T := TX6) (N := 3) hx hb hts iRX6 hown hC.1 (hP 0 _ rfl) rfl 1 (by decide) (hts (.fieldLink RX6 15 "LogWeave$Words" "second" "I") (List.mem_of_getElem? (i := 2) (by decide +kernel))) rfl (v := .int (f 1)) rfl dX6_at_15 ?_
      refine lv_goto (tgt := 25) hx hb dX6_at_18 (by decide) ?_
      exact W.iret hx hb hr (fun t ht _ => ⟨by rw [show k = 1 by omega], ht⟩) hS.2.2 dX6_at_25
  · skip
    refine lv_aload_n hx hb dX6_at_4 rfl (lv_at hl 0 rfl) ?_
    refine q_get (C := RX6) (T := TX6) (N := 3) hx hb hts iRX6 hown hC.1 (hP 0 _ rfl) rfl 0 (by decide) (hts (.fieldLink RX6 9 "LogWeave$Words" "first" "I") (List.mem_of_getElem? (i := 1) (by decide +kernel))) rfl (v := .int (f 0)) rfl dX6_at_5 ?_
    exact W.iret hx hb hr (fun t ht _ => ⟨by rw [show k = 0 by omega], ht⟩) hS.2.2 dX6_at_8
set_option maxHeartbeats 4000000 in
set_option maxRecDepth 100000 in
theorem m_cameWithin (l : Launch) (G : QG) (a : Nat) (v0 v1 v2 v3 v5 v6 v7 : Value) (t0 w0 n0 : Nat) (h1 : t0 ≤ n0) (h2 : n0 < 1073741824) (h3 : w0 < 1073741824) : Met l yX3_cameWithin wsX3_cameWithin ({ frames := 0, cells := 0, slots := 0, locals := 0 } : Room) (qO G [(a, .inr (6, [v0, v1, v2, v3, .int (nI t0), v5, v6, v7]))] [.ref (a), .int (nI w0), .int (nI n0)]) (qPV (some (.int (nI (qB (n0 - t0 < w0)))))) 0 0 (fun _ => False) := by
  refine Met.ofW (cc := cX3_cameWithin) (maxL := 3) (ret := (some .boolean)) (by decide) rfl ?_
  intro p e s m args below meth c s₁ B hml hv
  obtain ⟨rfl, hC, hP⟩ := hv
  have hx := B.exec
  have hb := B.bytes
  have hr := B.returns
  have hts := atoms_spec (ws := wsX3_cameWithin) B.pre
  have hown : s.vm.findClass RX3 = some m.cls := findClass_of_methodNamed B.named
  have hlocks := B.notSynchronized
  have hS : va_S (fun _ => False) s.heap s.heap [] := va_S.rf
  have hl := lv_entry ([.ref (a), .int (nI w0), .int (nI n0)]) (n := 3) (Nat.le_of_ble_eq_true rfl)
  rw [lg_entry_eq]
  generalize (lg_sl ([.ref (a), .int (nI w0), .int (nI n0)]) ++ List.replicate (3 - (lg_sl ([.ref (a), .int (nI w0), .int (nI n0)])).length) Slot.unset).toArray = ls at hl ⊢
  have hl : lv_has ls 3 [(0, .ref (a)), (1, .int (nI w0)), (2, .int (nI n0))] := hl
  have iRX3 : ∀ w ∈ wsX30, w ∈ wsX3_cameWithin := by decide +kernel
  refine lv_iload_n hx hb dX3_cameWithin_0 rfl (lv_at hl 2 rfl) ?_
  refine lv_aload_n hx hb dX3_cameWithin_1 rfl (lv_at hl 0 rfl) ?_
  refine q_get (C := RX3) (T := TX3) (N := 8) hx hb hts iRX3 hown hC.1 (hP 0 _ rfl) rfl 4 (by decide) (hts (.fieldLink RX3 29 "LogWeave$Line" "came" "I") (List.mem_of_getElem? (i := 1) (by decide +kernel))) rfl (v := .int (nI t0)) rfl dX3_cameWithin_2 ?_
  refine lv_isub hx hb dX3_cameWithin_5 ?_
  refine q_ti (pk_sub h1) ?_
  refine lv_iload_n hx hb dX3_cameWithin_6 rfl (lv_at hl 1 rfl) ?_
  refine q_ge (tgt := 14) hx hb (by omega) (by omega) dX3_cameWithin_7 (by decide) (fun c1 => ?_) (fun c1 => ?_)
  · skip
    refine lv_iconst (v := nI 0) hx hb dX3_cameWithin_14 (by decide) ?_
    exact W.zret (v := nI 0) hx hb hr rfl (fun t ht _ => ⟨by rw [qB_f (by omega)], ht⟩) hS.2.2 dX3_cameWithin_15
  · skip
    refine lv_iconst (v := nI 1) hx hb dX3_cameWithin_10 (by decide) ?_
    refine lv_goto (tgt := 15) hx hb dX3_cameWithin_11 (by decide) ?_
    exact W.zret (v := nI 1) hx hb hr rfl (fun t ht _ => ⟨by rw [qB_t c1], ht⟩) hS.2.2 dX3_cameWithin_15
set_option maxHeartbeats 4000000 in
set_option maxRecDepth 100000 in
theorem m_takes (l : Launch) (G : QG) (es : Nat) (A : Nat → Prop) (σ ad : QSt) (hF : qWF σ) (kf a s0 r0 P w0 : Nat) (hv : qLV G es σ ad kf a = some (.inr (4, [.int (nI s0), .int (nI r0), .int (nI P - 1), .int (nI w0)]))) (hP : P ≤ 3) (hs : s0 < 1073741824) (hr0 : r0 < 1073741824) (hw : w0 < 1073741824) (l0 : Nat) (hl0 : l0 < σ 0 0) : Met l yX1_takes wsX1_takes ({ frames := 1, cells := 0, slots := 0, locals := 21 } : Room) (qR G es A σ ad [.ref (ad kf a), .ref (ad 4 l0)]) (qPV (some (.int (nI (qB (qtk σ s0 r0 P w0 l0)))))) 0 0 (fun _ => False) := by
  refine Met.ofW (cc := cX1_takes) (maxL := 2) (ret := (some .boolean)) (by decide) rfl ?_
  intro p e s m args below meth c s₁ B hml hv
  obtain ⟨rfl, hC, hW⟩ := hv
  have hx := B.exec
  have hb := B.bytes
  have hr := B.returns
  have hts := atoms_spec (ws := wsX1_takes) B.pre
  have hown : s.vm.findClass RX1 = some m.cls := findClass_of_methodNamed B.named
  have hlocks := B.notSynchronized
  have hB := hF.1
  have hS : va_S (fun _ => False) s.heap s.heap [] := va_S.rf
  have hl := lv_entry ([.ref (ad kf a), .ref (ad 4 l0)]) (n := 2) (Nat.le_of_ble_eq_true rfl)
  rw [lg_entry_eq]
  generalize (lg_sl ([.ref (ad kf a), .ref (ad 4 l0)]) ++ List.replicate (2 - (lg_sl ([.ref (ad kf a), .ref (ad 4 l0)])).length) Slot.unset).toArray = ls at hl ⊢
  have hl : lv_has ls 2 [(0, .ref (ad kf a)), (1, .ref (ad 4 l0))] := hl
  have iRX1 : ∀ w ∈ wsX10, w ∈ wsX1_takes := by decide +kernel
  have iRX3 : ∀ w ∈ wsX30, w ∈ wsX1_takes := by decide +kernel
  have iRX6 : ∀ w ∈ wsX60, w ∈ wsX1_takes := by decide +kernel
  refine lv_aload_n hx hb dX1_takes_0 rfl (lv_at hl 1 rfl) ?_
  refine q_getN (C := RX3) (T := TX3) (N := 8) hx hb hts iRX3 hown hC.1 (hW.to (qLV4 hl0)) rfl 0 (by decide) (va_Nw.use rfl (qf_RX1_24 hC)) rfl (v := .int (nI (σ 64 l0))) rfl dX1_takes_1 ?_
  refine lv_aload_n hx hb dX1_takes_4 rfl (lv_at hl 0 rfl) ?_
  refine q_get (C := RX1) (T := TX1) (N := 4) hx hb hts iRX1 hown hC.1 (hW.to hv) rfl 0 (by decide) (hts (.fieldLink RX1 9 "LogWeave$Filter" "source" "I") (List.mem_of_getElem? (i := 1) (by decide +kernel))) rfl (v := .int (nI s0)) rfl dX1_takes_5 ?_
  refine q_ne (tgt := 52) hx hb (q31 (hB _ _)) (q31 hs) dX1_takes_8 (by decide) (fun c1 => ?_) (fun c1 => ?_)
  · skip
    refine lv_iconst (v := nI 0) hx hb dX1_takes_52 (by decide) ?_
    exact W.zret (v := nI 0) hx hb hr rfl (fun t ht _ => ⟨by rw [qB_f (fun h => c1 h.1)], ht⟩) hS.2.2 dX1_takes_53
  · skip
    refine lv_aload_n hx hb dX1_takes_11 rfl (lv_at hl 1 rfl) ?_
    refine q_getN (C := RX3) (T := TX3) (N := 8) hx hb hts iRX3 hown hC.1 (hW.to (qLV4 hl0)) rfl 1 (by decide) (va_Nw.use rfl (qf_RX1_27 hC)) rfl (v := .int (nI (σ 65 l0))) rfl dX1_takes_12 ?_
    refine lv_aload_n hx hb dX1_takes_15 rfl (lv_at hl 0 rfl) ?_
    refine q_get (C := RX1) (T := TX1) (N := 4) hx hb hts iRX1 hown hC.1 (hW.to hv) rfl 1 (by decide) (hts (.fieldLink RX1 15 "LogWeave$Filter" "leastRank" "I") (List.mem_of_getElem? (i := 2) (by decide +kernel))) rfl (v := .int (nI r0)) rfl dX1_takes_16 ?_
    refine q_lt (tgt := 52) hx hb (q31 (hB _ _)) (q31 hr0) dX1_takes_19 (by decide) (fun c2 => ?_) (fun c2 => ?_)
    · skip
      refine lv_iconst (v := nI 0) hx hb dX1_takes_52 (by decide) ?_
      exact W.zret (v := nI 0) hx hb hr rfl (fun t ht _ => ⟨by rw [qB_f (fun h => absurd h.2.1 (by omega))], ht⟩) hS.2.2 dX1_takes_53
    · skip
      refine lv_aload_n hx hb dX1_takes_22 rfl (lv_at hl 0 rfl) ?_
      refine q_get (C := RX1) (T := TX1) (N := 4) hx hb hts iRX1 hown hC.1 (hW.to hv) rfl 2 (by decide) (hts (.fieldLink RX1 18 "LogWeave$Filter" "place" "I") (List.mem_of_getElem? (i := 3) (by decide +kernel))) rfl (v := .int (nI P - 1)) rfl dX1_takes_23 ?_
      refine lv_iconst (v := -1) hx hb dX1_takes_26 (by decide) ?_
      refine lv_icmp_eq (tgt := 48) hx hb dX1_takes_27 (by decide) (fun c3 => ?_) (fun c3 => ?_)
      · skip
        refine lv_iconst (v := nI 1) hx hb dX1_takes_48 (by decide) ?_
        refine lv_goto (tgt := 53) hx hb dX1_takes_49 (by decide) ?_
        exact W.zret (v := nI 1) hx hb hr rfl (fun t ht _ => ⟨by rw [qB_t ⟨c1, c2, Or.inl ((q_m0 (by omega)).mp c3)⟩], ht⟩) hS.2.2 dX1_takes_53
      · skip
        have hP0 : P ≠ 0 := fun z => c3 ((q_m0 (by omega)).mpr z)
        refine lv_aload_n hx hb dX1_takes_30 rfl (lv_at hl 1 rfl) ?_
        refine q_getN (C := RX3) (T := TX3) (N := 8) hx hb hts iRX3 hown hC.1 (hW.to (qLV4 hl0)) rfl 2 (by decide) (va_Nw.use rfl (qf_RX1_30 hC)) rfl (v := .ref (ad 5 l0)) rfl dX1_takes_31 ?_
        refine lv_aload_n hx hb dX1_takes_34 rfl (lv_at hl 0 rfl) ?_
        refine q_get (C := RX1) (T := TX1) (N := 4) hx hb hts iRX1 hown hC.1 (hW.to hv) rfl 2 (by decide) (hts (.fieldLink RX1 18 "LogWeave$Filter" "place" "I") (List.mem_of_getElem? (i := 3) (by decide +kernel))) rfl (v := .int (nI P - 1)) rfl dX1_takes_35 ?_
        refine q_ti (q_pred hP0) ?_
        refine q_v (va_runVN (C := RX6) (As := [.int (nI (P - 1))]) (rest := []) ⟨hx, hb, hml, hown, hts⟩ (m_at l G (ad 5 l0) (fun k => nI (σ (80 + k) l0)) (P - 1) (by omega)) ⟨va_cnB 1 hts gX1_takes_X6_at_n34 rfl rfl rfl (qm_RX1_34 hC) (hts (.initialized RX6) (List.mem_of_getElem? (i := 6) (by decide +kernel))) (by decide +kernel) ⟨Nat.le_of_ble_eq_true rfl, Nat.le_of_ble_eq_true rfl⟩, (hts (.instanceMethod yX6_at) (List.mem_of_getElem? (i := 5) (by decide +kernel))), (hts (.selects RX6 yX6_at yX6_at) (List.mem_of_getElem? (i := 7) (by decide +kernel)))⟩ ⟨qO.blind, qrecv hC (hW.to (qLV5 hl0)) rfl, qO.pre hC (va_P1 (hW.to (qLV5 hl0)))⟩ rfl rfl hl.1 rfl (lv_room (Nat.le_of_ble_eq_true rfl)) dX1_takes_38 ⟨Nat.le_of_ble_eq_true rfl, Nat.le_of_ble_eq_true rfl⟩) hS (fun _ h => h.elim) (fun locs hS => ?_)
        refine lv_aload_n hx hb dX1_takes_41 rfl (lv_at hl 0 rfl) ?_
        refine q_get (C := RX1) (T := TX1) (N := 4) hx hb hts iRX1 hown hC.1 (hW.to hv) rfl 3 (by decide) (hts (.fieldLink RX1 21 "LogWeave$Filter" "word" "I") (List.mem_of_getElem? (i := 4) (by decide +kernel))) rfl (v := .int (nI w0)) rfl dX1_takes_42 ?_
        refine q_ne (tgt := 52) hx hb (q31 (hB _ _)) (q31 hw) dX1_takes_45 (by decide) (fun c4 => ?_) (fun c4 => ?_)
        · skip
          refine lv_iconst (v := nI 0) hx hb dX1_takes_52 (by decide) ?_
          exact W.zret (v := nI 0) hx hb hr rfl (fun t ht _ => ⟨by rw [qB_f (fun h => h.2.2.elim hP0 c4)], ht⟩) hS.2.2 dX1_takes_53
        · skip
          refine lv_iconst (v := nI 1) hx hb dX1_takes_48 (by decide) ?_
          refine lv_goto (tgt := 53) hx hb dX1_takes_49 (by decide) ?_
          exact W.zret (v := nI 1) hx hb hr rfl (fun t ht _ => ⟨by rw [qB_t ⟨c1, c2, Or.inr c4⟩], ht⟩) hS.2.2 dX1_takes_53
set_option maxHeartbeats 4000000 in
set_option maxRecDepth 100000 in
theorem m_counts (l : Launch) (G : QG) (es : Nat) (A : Nat → Prop) (σ ad : QSt) (hF : qWF σ) (a : Nat) (ha : a < σ 0 2) (l0 : Nat) (hl0 : l0 < σ 0 0) : Met l yX0_counts wsX0_counts ({ frames := 2, cells := 0, slots := 0, locals := 42 } : Room) (qR G es A σ ad [.ref (ad 8 a), .ref (ad 4 l0), .int (nI (σ 1 0))]) (qPV (some (.int (nI (qB (qcn σ a l0)))))) 0 0 (fun _ => False) := by
  refine Met.ofW (cc := cX0_counts) (maxL := 3) (ret := (some .boolean)) (by decide) rfl ?_
  intro p e s m args below meth c s₁ B hml hv
  obtain ⟨rfl, hC, hW⟩ := hv
  have hx := B.exec
  have hb := B.bytes
  have hr := B.returns
  have hts := atoms_spec (ws := wsX0_counts) B.pre
  have hown : s.vm.findClass RX0 = some m.cls := findClass_of_methodNamed B.named
  have hlocks := B.notSynchronized
  have hB := hF.1
  have hS : va_S (fun _ => False) s.heap s.heap [] := va_S.rf
  have hl := lv_entry ([.ref (ad 8 a), .ref (ad 4 l0), .int (nI (σ 1 0))]) (n := 3) (Nat.le_of_ble_eq_true rfl)
  rw [lg_entry_eq]
  generalize (lg_sl ([.ref (ad 8 a), .ref (ad 4 l0), .int (nI (σ 1 0))]) ++ List.replicate (3 - (lg_sl ([.ref (ad 8 a), .ref (ad 4 l0), .int (nI (σ 1 0))])).length) Slot.unset).toArray = ls at hl ⊢
  have hl : lv_has ls 3 [(0, .ref (ad 8 a)), (1, .ref (ad 4 l0)), (2, .int (nI (σ 1 0)))] := hl
  have iRX0 : ∀ w ∈ wsX00, w ∈ wsX0_counts := by decide +kernel
  have iRX3 : ∀ w ∈ wsX30, w ∈ wsX0_counts := by decide +kernel
  refine lv_aload_n hx hb dX0_counts_0 rfl (lv_at hl 1 rfl) ?_
  refine q_getN (C := RX3) (T := TX3) (N := 8) hx hb hts iRX3 hown hC.1 (hW.to (qLV4 hl0)) rfl 6 (by decide) (va_Nw.use rfl (qf_RX0_32 hC)) rfl (v := .int (nI (σ 69 l0))) rfl dX0_counts_1 ?_
  refine lv_bipush (v := nI 100) hx hb dX0_counts_4 (by decide) ?_
  refine q_eq (tgt := 36) hx hb (q31 (hB _ _)) (by decide) dX0_counts_6 (by decide) (fun c1 => ?_) (fun c1 => ?_)
  · skip
    refine lv_iconst (v := nI 0) hx hb dX0_counts_36 (by decide) ?_
    exact W.zret (v := nI 0) hx hb hr rfl (fun t ht _ => ⟨by rw [qB_f (fun h => h.1 c1)], ht⟩) hS.2.2 dX0_counts_37
  · skip
    refine lv_aload_n hx hb dX0_counts_9 rfl (lv_at hl 1 rfl) ?_
    refine lv_aload_n hx hb dX0_counts_10 rfl (lv_at hl 0 rfl) ?_
    refine q_get (C := RX0) (T := TX0) (N := 9) hx hb hts iRX0 hown hC.1 (hW.to (qLV8 ha)) rfl 3 (by decide) (hts (.fieldLink RX0 26 "LogWeave$Alert" "window" "I") (List.mem_of_getElem? (i := 1) (by decide +kernel))) rfl (v := .int (nI (σ 129 a))) rfl dX0_counts_11 ?_
    refine lv_iload_n hx hb dX0_counts_14 rfl (lv_at hl 2 rfl) ?_
    refine q_v (va_runVN (C := RX3) (As := [.int (nI (σ 129 a)), .int (nI (σ 1 0))]) (rest := []) ⟨hx, hb, hml, hown, hts⟩ (m_cameWithin l G (ad 4 l0) _ _ _ _ _ _ _ (σ 67 l0) (σ 129 a) (σ 1 0) (hF.came hl0) (hB _ _) (hB _ _)) ⟨va_cnB 2 hts gX0_counts_X3_cameWithin_n35 rfl rfl rfl (qm_RX0_35 hC) (hts (.initialized RX3) (List.mem_of_getElem? (i := 4) (by decide +kernel))) (by decide +kernel) ⟨Nat.le_of_ble_eq_true rfl, Nat.le_of_ble_eq_true rfl⟩, (hts (.instanceMethod yX3_cameWithin) (List.mem_of_getElem? (i := 3) (by decide +kernel))), (hts (.selects RX3 yX3_cameWithin yX3_cameWithin) (List.mem_of_getElem? (i := 5) (by decide +kernel)))⟩ ⟨qO.blind, qrecv hC (hW.to (qLV4 hl0)) rfl, qO.pre hC (va_P1 (hW.to (qLV4 hl0)))⟩ rfl rfl hl.1 rfl (lv_room (Nat.le_of_ble_eq_true rfl)) dX0_counts_15 ⟨Nat.le_of_ble_eq_true rfl, Nat.le_of_ble_eq_true rfl⟩) hS (fun _ h => h.elim) (fun locs hS => ?_)
    refine q_eq0 (tgt := 36) hx hb q_31B dX0_counts_18 (by decide) (fun c2 => ?_) (fun c2 => ?_)
    · skip
      refine lv_iconst (v := nI 0) hx hb dX0_counts_36 (by decide) ?_
      exact W.zret (v := nI 0) hx hb hr rfl (fun t ht _ => ⟨by rw [qB_f (fun h => by rw [qB_t h.2.1] at c2; exact absurd c2 (by decide))], ht⟩) hS.2.2 dX0_counts_37
    · skip
      have g2 : qcw σ (σ 129 a) l0 := Classical.byContradiction fun h => c2 (qB_f h)
      refine lv_aload_n hx hb dX0_counts_21 rfl (lv_at hl 0 rfl) ?_
      refine q_get (C := RX0) (T := TX0) (N := 9) hx hb hts iRX0 hown hC.1 (hW.to (qLV8 ha)) rfl 1 (by decide) (hts (.fieldLink RX0 19 "LogWeave$Alert" "filter" "LLogWeave$Filter;") (List.mem_of_getElem? (i := 2) (by decide +kernel))) rfl (v := .ref (ad 9 a)) rfl dX0_counts_22 ?_
      refine lv_aload_n hx hb dX0_counts_25 rfl (lv_at hl 1 rfl) ?_
      refine q_v (va_runVN (C := RX1) (As := [.ref (ad 4 l0)]) (rest := []) ⟨hx, hb, hml, hown, hts⟩ (m_takes l G es A σ ad hF 9 a (σ 144 a) (σ 145 a) (σ 146 a) (σ 147 a) (qLV9 ha) (hF.plc ha) (hB _ _) (hB _ _) (hB _ _) l0 hl0) ⟨va_cnB 1 hts gX0_counts_X1_takes_n39 rfl rfl rfl (qm_RX0_39 hC) (hts (.initialized RX1) (List.mem_of_getElem? (i := 9) (by decide +kernel))) (by decide +kernel) ⟨Nat.le_of_ble_eq_true rfl, Nat.le_of_ble_eq_true rfl⟩, (hts (.instanceMethod yX1_takes) (List.mem_of_getElem? (i := 8) (by decide +kernel))), (hts (.selects RX1 yX1_takes yX1_takes) (List.mem_of_getElem? (i := 10) (by decide +kernel)))⟩ ⟨qR.blind, qrecv hC (hW.to (qLV9 ha)) rfl, qR.pre hC hW⟩ rfl rfl hl.1 rfl (lv_room (Nat.le_of_ble_eq_true rfl)) dX0_counts_26 ⟨Nat.le_of_ble_eq_true rfl, Nat.le_of_ble_eq_true rfl⟩) hS (fun _ h => h.elim) (fun locs hS => ?_)
      refine q_eq0 (tgt := 36) hx hb q_31B dX0_counts_29 (by decide) (fun c3 => ?_) (fun c3 => ?_)
      · skip
        refine lv_iconst (v := nI 0) hx hb dX0_counts_36 (by decide) ?_
        exact W.zret (v := nI 0) hx hb hr rfl (fun t ht _ => ⟨by rw [qB_f (fun h => by rw [qB_t h.2.2] at c3; exact absurd c3 (by decide))], ht⟩) hS.2.2 dX0_counts_37
      · skip
        refine lv_iconst (v := nI 1) hx hb dX0_counts_32 (by decide) ?_
        refine lv_goto (tgt := 37) hx hb dX0_counts_33 (by decide) ?_
        exact W.zret (v := nI 1) hx hb hr rfl (fun t ht _ => ⟨by rw [qB_t ⟨c1, g2, Classical.byContradiction fun h => c3 (qB_f h)⟩], ht⟩) hS.2.2 dX0_counts_37
