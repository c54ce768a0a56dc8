theorem qWF.bud {σ : QSt} (h : qWF σ) (i v : Nat) (hv : v < 1073741824) : qWF (qup σ 48 i v) := by
  obtain ⟨h1, h2, h3, h4, h5, h6, h7, h8, h9⟩ := h
  refine ⟨fun r j => ?_, h2, h3, h4, h5, h6, h7, h8, h9⟩
  unfold qup
  split
  · exact hv
  · exact h1 r j
theorem q_bud {σ : QSt} {s0 b0 : Nat} (hs0 : s0 < 4) : upd (fun i => nI (σ 48 i)) (nI s0).toNatClampNeg (nI b0) = fun i => nI (qup σ 48 s0 b0 48 i) := by
  rw [nI_clamp (by omega)]
  funext i
  by_cases c : i = s0
  · subst c
    rw [qup_s]
    simp [upd]
  · rw [qup_j c]
    simp [upd, c]

set_option maxHeartbeats 4000000 in
set_option maxRecDepth 100000 in
theorem m_checkPlace (l : Launch) (k : Nat) (hk : k < 3) : Met l yX7_checkPlace wsX7_checkPlace ({ frames := 1, cells := 0, slots := 0, locals := 22 } : Room) (qU [.int (nI k)]) (qPV none) 0 0 (fun _ => False) := by
  refine Met.ofW (cc := cX7_checkPlace) (maxL := 1) (ret := none) (by decide) rfl ?_
  intro p e s m args below meth c s₁ B hml hv
  obtain ⟨rfl, -⟩ := hv
  have hx := B.exec
  have hb := B.bytes
  have hr := B.returns
  have hts := atoms_spec (ws := wsX7_checkPlace) B.pre
  have hown : s.vm.findClass RX7 = some m.cls := findClass_of_methodNamed B.named
  have hlocks := B.notSynchronized
  have hS : va_S (fun _ => False) s.heap s.heap [] := va_S.rf
  have hl := lv_entry ([.int (nI k)]) (n := 1) (Nat.le_of_ble_eq_true rfl)
  rw [lg_entry_eq]
  generalize (lg_sl ([.int (nI k)]) ++ List.replicate (1 - (lg_sl ([.int (nI k)])).length) Slot.unset).toArray = ls at hl ⊢
  have hl : lv_has ls 1 [(0, .int (nI k))] := hl
  refine lv_iload_n hx hb dX7_checkPlace_0 rfl (lv_at hl 0 rfl) ?_
  refine lv_iconst (v := nI 0) hx hb dX7_checkPlace_1 (by decide) ?_
  refine lv_iconst (v := nI 2) hx hb dX7_checkPlace_2 (by decide) ?_
  refine q_v (va_runS (As := [.int (nI k), .int (nI 0), .int (nI 2)]) (rest := []) ⟨hx, hb, hml, hown, hts⟩ (m_isWithin l (nI k) (nI 0) (nI 2)) (va_cwS 3 hts gX7_checkPlace_X7_isWithin rfl rfl rfl (by decide +kernel) ⟨Nat.le_of_ble_eq_true rfl, Nat.le_of_ble_eq_true rfl⟩) ⟨qU.blind, qU.pre⟩ rfl rfl hl.1 rfl (lv_room (Nat.le_of_ble_eq_true rfl)) dX7_checkPlace_3 ⟨Nat.le_of_ble_eq_true rfl, Nat.le_of_ble_eq_true rfl⟩) hS (fun _ h => h.elim) (fun locs hS => ?_)
  refine q_ti (y := nI 1) (by rw [qB_t (⟨nI_le (by omega) (by omega), nI_le (by omega) (by decide)⟩ : nI 0 ≤ nI k ∧ nI k ≤ nI 2)]) ?_
  refine q_ne0 (tgt := 20) hx hb (by decide) dX7_checkPlace_6 (by decide) (fun c2 => ?_) (fun c2 => absurd c2 (by decide))
  exact W.vret hx hb hr (fun t ht _ => ⟨rfl, ht⟩) hS.2.2 dX7_checkPlace_20
set_option maxHeartbeats 4000000 in
set_option maxRecDepth 100000 in
theorem m_setBudget (l : Launch) (G : QG) (es : Nat) (A : Nat → Prop) (σ ad : QSt) (hF : qWF σ) (s0 b0 : Nat) (hs0 : s0 < 4) (hb0 : b0 ≤ 9999) : Met l yX7_setBudget wsX7_setBudget ({ frames := 5, cells := 0, slots := 0, locals := 112 } : Room) (qW G es A σ ad [.ref (ad 0 0), .int (nI s0), .int (nI b0)]) (qWV (some (.int (nI (qfLs (qup σ 48 s0 b0) s0 200).2))) (qLW G es A (qfLs (qup σ 48 s0 b0) s0 200).1 ad) A) 0 0 A := by
  refine Met.ofW (cc := cX7_setBudget) (maxL := 3) (ret := (some .int)) (by decide) rfl ?_
  intro p e s m args below meth c s₁ B hml hv
  obtain ⟨rfl, hC, hW, hZ, hA⟩ := hv
  have hx := B.exec
  have hb := B.bytes
  have hr := B.returns
  have hts := atoms_spec (ws := wsX7_setBudget) B.pre
  have hown : s.vm.findClass RX7 = some m.cls := findClass_of_methodNamed B.named
  have hlocks := B.notSynchronized
  have hB := hF.1
  have hn := hF.n
  have hS : va_S A s.heap s.heap [] := va_S.rf
  have hl := lv_entry ([.ref (ad 0 0), .int (nI s0), .int (nI b0)]) (n := 3) (Nat.le_of_ble_eq_true rfl)
  rw [lg_entry_eq]
  generalize (lg_sl ([.ref (ad 0 0), .int (nI s0), .int (nI b0)]) ++ List.replicate (3 - (lg_sl ([.ref (ad 0 0), .int (nI s0), .int (nI b0)])).length) Slot.unset).toArray = ls at hl ⊢
  have hl : lv_has ls 3 [(0, .ref (ad 0 0)), (1, .int (nI s0)), (2, .int (nI b0))] := hl
  have iRX7 : ∀ w ∈ wsX70, w ∈ wsX7_setBudget := by decide +kernel
  refine lv_iload_n hx hb dX7_setBudget_0 rfl (lv_at hl 1 rfl) ?_
  refine q_n (va_runS (As := [.int (nI s0)]) (rest := []) ⟨hx, hb, hml, hown, hts⟩ (m_checkSource l s0 hs0) (va_cwS 1 hts gX7_setBudget_X7_checkSource rfl rfl rfl (by decide +kernel) ⟨Nat.le_of_ble_eq_true rfl, Nat.le_of_ble_eq_true rfl⟩) ⟨qU.blind, qU.pre⟩ rfl rfl hl.1 rfl (lv_room (Nat.le_of_ble_eq_true rfl)) dX7_setBudget_1 ⟨Nat.le_of_ble_eq_true rfl, Nat.le_of_ble_eq_true rfl⟩) hS (fun _ h => h.elim) (fun locs hS => ?_)
  refine lv_iload_n hx hb dX7_setBudget_4 rfl (lv_at hl 2 rfl) ?_
  refine lv_iconst (v := nI 0) hx hb dX7_setBudget_5 (by decide) ?_
  refine lv_sipush (v := nI 9999) hx hb dX7_setBudget_6 (by decide) ?_
  refine q_v (va_runS (As := [.int (nI b0), .int (nI 0), .int (nI 9999)]) (rest := []) ⟨hx, hb, hml, hown, hts⟩ (m_isWithin l (nI b0) (nI 0) (nI 9999)) (va_cwS 3 hts gX7_setBudget_X7_isWithin rfl rfl rfl (by decide +kernel) ⟨Nat.le_of_ble_eq_true rfl, Nat.le_of_ble_eq_true rfl⟩) ⟨qU.blind, qU.pre⟩ rfl rfl hl.1 rfl (lv_room (Nat.le_of_ble_eq_true rfl)) dX7_setBudget_9 ⟨Nat.le_of_ble_eq_true rfl, Nat.le_of_ble_eq_true rfl⟩) hS (fun _ h => h.elim) (fun locs hS => ?_)
  refine q_ti (y := nI 1) (by rw [qB_t (⟨nI_le (by omega) (by omega), nI_le (by omega) (by decide)⟩ : nI 0 ≤ nI b0 ∧ nI b0 ≤ nI 9999)]) ?_
  refine q_ne0 (tgt := 25) hx hb (by decide) dX7_setBudget_12 (by decide) (fun c2 => ?_) (fun c2 => absurd c2 (by decide))
  refine lv_aload_n hx hb dX7_setBudget_25 rfl (lv_at hl 0 rfl) ?_
  refine q_get (C := RX7) (T := TX7) (N := 7) hx hb hts iRX7 hown hC.1 (hW.to qLV0) rfl 5 (by decide) (hts (.fieldLink RX7 28 "LogWeave" "budgets" "[I") (List.mem_of_getElem? (i := 3) (by decide +kernel))) rfl (v := .ref (ad 3 0)) rfl dX7_setBudget_26 ?_
  refine lv_iload_n hx hb dX7_setBudget_29 rfl (lv_at hl 1 rfl) ?_
  refine lv_iload_n hx hb dX7_setBudget_30 rfl (lv_at hl 2 rfl) ?_
  refine q_iast hx hb hC.1 (hW.to qLV3) (hW.in qLV3) hS 1 rfl (vp_in_nI hs0 (by decide)) dX7_setBudget_31 (fun H1 locs hat hsz hoq hS => ?_)
  rw [q_bud hs0] at hat
  have hW := hW.upBud s0 b0 (qLV3 (G := G) (es := es) (σ := qup σ 48 s0 b0) (ad := ad)) hat hoq
  have hF9 := hF.bud s0 b0 (by omega)
  refine lv_aload_n hx hb dX7_setBudget_32 rfl (lv_at hl 0 rfl) ?_
  refine lv_iload_n hx hb dX7_setBudget_33 rfl (lv_at hl 1 rfl) ?_
  refine q_wv (va_runV (As := [.int (nI s0)]) (rest := []) ⟨hx, hb, hml, hown, hts⟩ (m_lookAtSource l G es A (qup σ 48 s0 b0) ad hF9 s0 hs0) (cwV 1 hts gX7_setBudget_X7_lookAtSource rfl rfl rfl (by decide +kernel) ⟨Nat.le_of_ble_eq_true rfl, Nat.le_of_ble_eq_true rfl⟩) ⟨qW.blind, qrecv hC (hW.to qLV0) rfl, qW.pre hC hW hZ hS (fun _ h => h) (fun q h => hA q (Nat.le_trans hS.1 h))⟩ rfl rfl hl.1 rfl (lv_room (Nat.le_of_ble_eq_true rfl)) dX7_setBudget_34 ⟨Nat.le_of_ble_eq_true rfl, Nat.le_of_ble_eq_true rfl⟩) hS (fun _ h => h) (fun _ h => h) (fun H2 locs hW hz hk hS => ?_)
  exact W.iret hx hb hr (fun t ht _ => ⟨rfl, by rw [ht]; exact hW, hS.F ht⟩) hS.2.2 dX7_setBudget_37
set_option maxHeartbeats 4000000 in
set_option maxRecDepth 100000 in
theorem m_answer (l : Launch) (G : QG) (es : Nat) (A : Nat → Prop) (σ ad : QSt) (hF : qWF σ) (i : Nat) (hi : i < σ 0 4) (h1 : σ 193 i ≠ 0) : Met l yX7_answer wsX7_answer ({ frames := 3, cells := 0, slots := 0, locals := 64 } : Room) (qR G es A σ ad [.ref (ad 0 0), .int (nI i)]) (qPV (some (.int (nI (σ 194 i))))) 0 0 (fun _ => False) := by
  refine Met.ofW (cc := cX7_answer) (maxL := 3) (ret := (some .int)) (by decide) rfl ?_
  intro p e s m args below meth c s₁ B hml hv
  obtain ⟨rfl, hC, hW⟩ := hv
  have hx := B.exec
  have hb := B.bytes
  have hr := B.returns
  have hts := atoms_spec (ws := wsX7_answer) B.pre
  have hown : s.vm.findClass RX7 = some m.cls := findClass_of_methodNamed B.named
  have hlocks := B.notSynchronized
  have hB := hF.1
  have hn := hF.n
  have hS : va_S (fun _ => False) s.heap s.heap [] := va_S.rf
  have hl := lv_entry ([.ref (ad 0 0), .int (nI i)]) (n := 3) (Nat.le_of_ble_eq_true rfl)
  rw [lg_entry_eq]
  generalize (lg_sl ([.ref (ad 0 0), .int (nI i)]) ++ List.replicate (3 - (lg_sl ([.ref (ad 0 0), .int (nI i)])).length) Slot.unset).toArray = ls at hl ⊢
  have hl : lv_has ls 3 [(0, .ref (ad 0 0)), (1, .int (nI i))] := hl
  have iRX7 : ∀ w ∈ wsX70, w ∈ wsX7_answer := by decide +kernel
  have iRX5 : ∀ w ∈ wsX50, w ∈ wsX7_answer := by decide +kernel
  refine lv_iload_n hx hb dX7_answer_0 rfl (lv_at hl 1 rfl) ?_
  refine q_lt0 (tgt := 15) hx hb (by omega) dX7_answer_1 (by decide) (fun g1 => g1.elim) (fun g1 => ?_)
  refine lv_iload_n hx hb dX7_answer_4 rfl (lv_at hl 1 rfl) ?_
  refine lv_aload_n hx hb dX7_answer_5 rfl (lv_at hl 0 rfl) ?_
  refine q_get (C := RX7) (T := TX7) (N := 7) hx hb hts iRX7 hown hC.1 (hW.to qLV0) rfl 4 (by decide) (hts (.fieldLink RX7 25 "LogWeave" "requestList" "Ljava/util/ArrayList;") (List.mem_of_getElem? (i := 5) (by decide +kernel))) rfl (v := .ref (ad 1 4)) rfl dX7_answer_6 ?_
  refine q_v (va_runV (As := []) (rest := [.int (nI i)]) ⟨hx, hb, hml, hown, hts⟩ (m_size l G (ad 1 4) _ _ (nI (σ 0 4))) (cwV 0 hts gX7_answer_Jx4a65c_size_8abf5 rfl rfl rfl (by decide +kernel) ⟨Nat.le_of_ble_eq_true rfl, Nat.le_of_ble_eq_true rfl⟩) ⟨qO.blind, qrecv hC (hW.to (qLV1 (j := 4) (by decide))) rfl, qO.pre hC (hW.lob (by decide))⟩ rfl rfl hl.1 rfl (lv_room (Nat.le_of_ble_eq_true rfl)) dX7_answer_9 ⟨Nat.le_of_ble_eq_true rfl, Nat.le_of_ble_eq_true rfl⟩) hS (fun _ h => h.elim) (fun locs hS => ?_)
  refine q_lt (tgt := 25) hx hb (by omega) (q31 (hB _ _)) dX7_answer_12 (by decide) (fun g2 => ?_) (fun g2 => (by omega))
  refine lv_aload_n hx hb dX7_answer_25 rfl (lv_at hl 0 rfl) ?_
  refine q_get (C := RX7) (T := TX7) (N := 7) hx hb hts iRX7 hown hC.1 (hW.to qLV0) rfl 4 (by decide) (hts (.fieldLink RX7 25 "LogWeave" "requestList" "Ljava/util/ArrayList;") (List.mem_of_getElem? (i := 5) (by decide +kernel))) rfl (v := .ref (ad 1 4)) rfl dX7_answer_26 ?_
  refine lv_iload_n hx hb dX7_answer_29 rfl (lv_at hl 1 rfl) ?_
  refine q_v (va_runV (As := [.int (nI i)]) (rest := []) ⟨hx, hb, hml, hown, hts⟩ (m_get l G (ad 1 4) (ad 2 4) (σ 32 4) (σ 0 4) (fun i => if i < σ 0 4 then some (ad (4 + 2 * 4) i) else none) (.int (nI (σ 16 4))) i (ad 12 i) hi (hF.c 4) (hB _ _) (if_pos hi)) (cwV 1 hts gX7_answer_Jx4a65c_get_915e3 rfl rfl rfl (by decide +kernel) ⟨Nat.le_of_ble_eq_true rfl, Nat.le_of_ble_eq_true rfl⟩) ⟨qO.blind, qrecv hC (hW.to (qLV1 (j := 4) (by decide))) rfl, qO.pre hC (hW.list hF (J := 4) (by decide) hi)⟩ rfl rfl hl.1 rfl (lv_room (Nat.le_of_ble_eq_true rfl)) dX7_answer_30 ⟨Nat.le_of_ble_eq_true rfl, Nat.le_of_ble_eq_true rfl⟩) hS (fun _ h => h.elim) (fun locs hS => ?_)
  refine va_castS hx hb hown (hts (.classLink RX7 173 "LogWeave$Request") (List.mem_of_getElem? (i := 6) (by decide +kernel))) (hC.1.1 8 _ rfl).2 (qrecv hC (hW.to (qLV12 hi)) rfl) dX7_answer_33 ?_
  refine lv_astore_n (lv' := [(2, .ref (ad 12 i)), (0, .ref (ad 0 0)), (1, .int (nI i))]) hx hb dX7_answer_36 rfl hl (by decide) rfl (fun ls hl => ?_)
  refine lv_aload_n hx hb dX7_answer_37 rfl (lv_at hl 0 rfl) ?_
  refine q_getN (C := RX5) (T := TX5) (N := 4) hx hb hts iRX5 hown hC.1 (hW.to (qLV12 hi)) rfl 2 (by decide) (va_Nw.use rfl (qf_RX7_183 hC)) rfl (v := .int (nI (σ 193 i))) rfl dX7_answer_38 ?_
  refine q_ne0 (tgt := 54) hx hb (q31 (hB _ _)) dX7_answer_41 (by decide) (fun g3 => ?_) (fun g3 => (by omega))
  refine lv_aload_n hx hb dX7_answer_54 rfl (lv_at hl 0 rfl) ?_
  refine q_getN (C := RX5) (T := TX5) (N := 4) hx hb hts iRX5 hown hC.1 (hW.to (qLV12 hi)) rfl 3 (by decide) (va_Nw.use rfl (qf_RX7_188 hC)) rfl (v := .int (nI (σ 194 i))) rfl dX7_answer_55 ?_
  exact W.iret hx hb hr (fun t ht _ => ⟨rfl, ht⟩) hS.2.2 dX7_answer_58
set_option maxHeartbeats 4000000 in
set_option maxRecDepth 100000 in
theorem m_wordAt (l : Launch) (G : QG) (es : Nat) (A : Nat → Prop) (σ ad : QSt) (hF : qWF σ) (p0 k : Nat) (hp : p0 < σ 0 1) (hm : σ 97 p0 = 0) (hk : k < 3) : Met l yX7_wordAt wsX7_wordAt ({ frames := 4, cells := 0, slots := 0, locals := 86 } : Room) (qR G es A σ ad [.ref (ad 0 0), .int (nI p0), .int (nI k)]) (qPV (some (.int (nI (σ (112 + k) p0) - 1)))) 0 0 (fun _ => False) := by
  refine Met.ofW (cc := cX7_wordAt) (maxL := 4) (ret := (some .int)) (by decide) rfl ?_
  intro p e s m args below meth c s₁ B hml hv
  obtain ⟨rfl, hC, hW⟩ := hv
  have hx := B.exec
  have hb := B.bytes
  have hr := B.returns
  have hts := atoms_spec (ws := wsX7_wordAt) B.pre
  have hown : s.vm.findClass RX7 = some m.cls := findClass_of_methodNamed B.named
  have hlocks := B.notSynchronized
  have hB := hF.1
  have hn := hF.n
  have hS : va_S (fun _ => False) s.heap s.heap [] := va_S.rf
  have hl := lv_entry ([.ref (ad 0 0), .int (nI p0), .int (nI k)]) (n := 4) (Nat.le_of_ble_eq_true rfl)
  rw [lg_entry_eq]
  generalize (lg_sl ([.ref (ad 0 0), .int (nI p0), .int (nI k)]) ++ List.replicate (4 - (lg_sl ([.ref (ad 0 0), .int (nI p0), .int (nI k)])).length) Slot.unset).toArray = ls at hl ⊢
  have hl : lv_has ls 4 [(0, .ref (ad 0 0)), (1, .int (nI p0)), (2, .int (nI k))] := hl
  have iRX7 : ∀ w ∈ wsX70, w ∈ wsX7_wordAt := by decide +kernel
  have iRX4 : ∀ w ∈ wsX40, w ∈ wsX7_wordAt := by decide +kernel
  refine lv_aload_n hx hb dX7_wordAt_0 rfl (lv_at hl 0 rfl) ?_
  refine lv_iload_n hx hb dX7_wordAt_1 rfl (lv_at hl 1 rfl) ?_
  refine q_v (va_runV (As := [.int (nI p0)]) (rest := []) ⟨hx, hb, hml, hown, hts⟩ (m_patternNumbered l G es A σ ad hF p0 hp hm) (cwV 1 hts gX7_wordAt_X7_patternNumbered rfl rfl rfl (by decide +kernel) ⟨Nat.le_of_ble_eq_true rfl, Nat.le_of_ble_eq_true rfl⟩) ⟨qR.blind, qrecv hC (hW.to qLV0) rfl, qR.pre hC hW⟩ rfl rfl hl.1 rfl (lv_room (Nat.le_of_ble_eq_true rfl)) dX7_wordAt_2 ⟨Nat.le_of_ble_eq_true rfl, Nat.le_of_ble_eq_true rfl⟩) hS (fun _ h => h.elim) (fun locs hS => ?_)
  refine lv_astore_n (lv' := [(3, .ref (ad 6 p0)), (0, .ref (ad 0 0)), (1, .int (nI p0)), (2, .int (nI k))]) hx hb dX7_wordAt_5 rfl hl (by decide) rfl (fun ls hl => ?_)
  refine lv_iload_n hx hb dX7_wordAt_6 rfl (lv_at hl 3 rfl) ?_
  refine q_n (va_runS (As := [.int (nI k)]) (rest := []) ⟨hx, hb, hml, hown, hts⟩ (m_checkPlace l k hk) (va_cwS 1 hts gX7_wordAt_X7_checkPlace rfl rfl rfl (by decide +kernel) ⟨Nat.le_of_ble_eq_true rfl, Nat.le_of_ble_eq_true rfl⟩) ⟨qU.blind, qU.pre⟩ rfl rfl hl.1 rfl (lv_room (Nat.le_of_ble_eq_true rfl)) dX7_wordAt_7 ⟨Nat.le_of_ble_eq_true rfl, Nat.le_of_ble_eq_true rfl⟩) hS (fun _ h => h.elim) (fun locs hS => ?_)
  refine lv_aload_n hx hb dX7_wordAt_10 rfl (lv_at hl 0 rfl) ?_
  refine q_getN (C := RX4) (T := TX4) (N := 4) hx hb hts iRX4 hown hC.1 (hW.to (qLV6 hp)) rfl 2 (by decide) (va_Nw.use rfl (qf_RX7_138 hC)) rfl (v := .ref (ad 7 p0)) rfl dX7_wordAt_11 ?_
  refine lv_iload_n hx hb dX7_wordAt_14 rfl (lv_at hl 3 rfl) ?_
  refine q_v (va_runVN (C := RX6) (As := [.int (nI k)]) (rest := []) ⟨hx, hb, hml, hown, hts⟩ (m_at l G (ad 7 p0) (fun k => nI (σ (112 + k) p0) - 1) k hk) ⟨va_cnB 1 hts gX7_wordAt_X6_at_n142 rfl rfl rfl (qm_RX7_142 hC) (hts (.initialized RX6) (List.mem_of_getElem? (i := 42) (by decide +kernel))) (by decide +kernel) ⟨Nat.le_of_ble_eq_true rfl, Nat.le_of_ble_eq_true rfl⟩, (hts (.instanceMethod yX6_at) (List.mem_of_getElem? (i := 41) (by decide +kernel))), (hts (.selects RX6 yX6_at yX6_at) (List.mem_of_getElem? (i := 43) (by decide +kernel)))⟩ ⟨qO.blind, qrecv hC (hW.to (qLV7 hp)) rfl, qO.pre hC (va_P1 (hW.to (qLV7 hp)))⟩ rfl rfl hl.1 rfl (lv_room (Nat.le_of_ble_eq_true rfl)) dX7_wordAt_15 ⟨Nat.le_of_ble_eq_true rfl, Nat.le_of_ble_eq_true rfl⟩) hS (fun _ h => h.elim) (fun locs hS => ?_)
  exact W.iret hx hb hr (fun t ht _ => ⟨rfl, ht⟩) hS.2.2 dX7_wordAt_18
set_option maxHeartbeats 4000000 in
set_option maxRecDepth 100000 in
theorem m_isSound (l : Launch) (G : QG) (es : Nat) (A : Nat → Prop) (σ ad : QSt) (hF : qWF σ) (h1 : ∀ a, a < σ 0 2 → σ 132 a = qcnt σ a) (h2 : ∀ l0, l0 < σ 0 0 → σ 69 l0 = 100 → ∀ f, f < σ 0 3 → σ (1000 + f) l0 ≠ 1) (h3 : ∀ l0, l0 < σ 0 0 → σ 97 (σ 68 l0) = 0 ∧ σ 64 l0 = σ 96 (σ 68 l0) ∧ qft (fun k => σ (112 + k) (σ 68 l0)) (fun k => σ (80 + k) l0)) : Met l yX7_isSound wsX7_isSound ({ frames := 5, cells := 0, slots := 0, locals := 109 } : Room) (qR G es A σ ad [.ref (ad 0 0)]) (qPV (some (.int (nI 1)))) 0 0 (fun _ => False) := by
  refine Met.ofW (cc := cX7_isSound) (maxL := 1) (ret := (some .boolean)) (by decide) rfl ?_
  intro p e s m args below meth c s₁ B hml hv
  obtain ⟨rfl, hC, hW⟩ := hv
  have hx := B.exec
  have hb := B.bytes
  have hr := B.returns
  have hts := atoms_spec (ws := wsX7_isSound) B.pre
  have hown : s.vm.findClass RX7 = some m.cls := findClass_of_methodNamed B.named
  have hlocks := B.notSynchronized
  have hB := hF.1
  have hn := hF.n
  have hS : va_S (fun _ => False) s.heap s.heap [] := va_S.rf
  have hl := lv_entry ([.ref (ad 0 0)]) (n := 1) (Nat.le_of_ble_eq_true rfl)
  rw [lg_entry_eq]
  generalize (lg_sl ([.ref (ad 0 0)]) ++ List.replicate (1 - (lg_sl ([.ref (ad 0 0)])).length) Slot.unset).toArray = ls at hl ⊢
  have hl : lv_has ls 1 [(0, .ref (ad 0 0))] := hl
  have iRX7 : ∀ w ∈ wsX70, w ∈ wsX7_isSound := by decide +kernel
  refine lv_aload_n hx hb dX7_isSound_0 rfl (lv_at hl 0 rfl) ?_
  refine q_v (va_runV (As := []) (rest := []) ⟨hx, hb, hml, hown, hts⟩ (m_countsAreSound l G es A σ ad hF h1) (cwV 0 hts gX7_isSound_X7_countsAreSound rfl rfl rfl (by decide +kernel) ⟨Nat.le_of_ble_eq_true rfl, Nat.le_of_ble_eq_true rfl⟩) ⟨qR.blind, qrecv hC (hW.to qLV0) rfl, qR.pre hC hW⟩ rfl rfl hl.1 rfl (lv_room (Nat.le_of_ble_eq_true rfl)) dX7_isSound_1 ⟨Nat.le_of_ble_eq_true rfl, Nat.le_of_ble_eq_true rfl⟩) hS (fun _ h => h.elim) (fun locs hS => ?_)
  refine q_eq0 (tgt := 25) hx hb (by decide) dX7_isSound_4 (by decide) (fun c2 => absurd c2 (by decide)) (fun c2 => ?_)
  refine lv_aload_n hx hb dX7_isSound_7 rfl (lv_at hl 0 rfl) ?_
  refine q_v (va_runV (As := []) (rest := []) ⟨hx, hb, hml, hown, hts⟩ (m_firingsAreSound l G es A σ ad hF h2) (cwV 0 hts gX7_isSound_X7_firingsAreSound rfl rfl rfl (by decide +kernel) ⟨Nat.le_of_ble_eq_true rfl, Nat.le_of_ble_eq_true rfl⟩) ⟨qR.blind, qrecv hC (hW.to qLV0) rfl, qR.pre hC hW⟩ rfl rfl hl.1 rfl (lv_room (Nat.le_of_ble_eq_true rfl)) dX7_isSound_8 ⟨Nat.le_of_ble_eq_true rfl, Nat.le_of_ble_eq_true rfl⟩) hS (fun _ h => h.elim) (fun locs hS => ?_)
  refine q_eq0 (tgt := 25) hx hb (by decide) dX7_isSound_11 (by decide) (fun c2 => absurd c2 (by decide)) (fun c2 => ?_)
  refine lv_aload_n hx hb dX7_isSound_14 rfl (lv_at hl 0 rfl) ?_
  refine q_v (va_runV (As := []) (rest := []) ⟨hx, hb, hml, hown, hts⟩ (m_patternsAreSound l G es A σ ad hF h3) (cwV 0 hts gX7_isSound_X7_patternsAreSound rfl rfl rfl (by decide +kernel) ⟨Nat.le_of_ble_eq_true rfl, Nat.le_of_ble_eq_true rfl⟩) ⟨qR.blind, qrecv hC (hW.to qLV0) rfl, qR.pre hC hW⟩ rfl rfl hl.1 rfl (lv_room (Nat.le_of_ble_eq_true rfl)) dX7_isSound_15 ⟨Nat.le_of_ble_eq_true rfl, Nat.le_of_ble_eq_true rfl⟩) hS (fun _ h => h.elim) (fun locs hS => ?_)
  refine q_eq0 (tgt := 25) hx hb (by decide) dX7_isSound_18 (by decide) (fun c2 => absurd c2 (by decide)) (fun c2 => ?_)
  refine lv_iconst (v := nI 1) hx hb dX7_isSound_21 (by decide) ?_
  refine lv_goto (tgt := 26) hx hb dX7_isSound_22 (by decide) ?_
  exact W.zret (v := nI 1) hx hb hr rfl (fun t ht _ => ⟨rfl, ht⟩) hS.2.2 dX7_isSound_26
