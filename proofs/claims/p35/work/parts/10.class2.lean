set_option maxHeartbeats 4000000 in
set_option maxRecDepth 100000 in
theorem m_suits (l : Launch) (G : QG) (pa pw wa ps s0 : Nat) (P x : Nat → Nat) (v0 v3 : Value) (hps : ps < 1073741824) (hs0 : s0 < 1073741824) (hP : ∀ k, P k < 1073741824) (hx0 : ∀ k, k < 3 → x k < 1073741823) : Met l yX4_suits wsX4_suits ({ frames := 1, cells := 0, slots := 0, locals := 21 } : Room) (qO G [(pa, .inr (7, [v0, .int (nI ps), .ref pw, v3])), (pw, .inr (9, [.int (nI (P 0) - 1), .int (nI (P 1) - 1), .int (nI (P 2) - 1)])), (wa, .inr (9, [.int (nI (x 0)), .int (nI (x 1)), .int (nI (x 2))]))] [.ref (pa), .int (nI s0), .ref (wa)]) (qPV (some (.int (nI (qB (s0 = ps ∧ qft P x)))))) 0 0 (fun _ => False) := by
  refine Met.ofW (cc := cX4_suits) (maxL := 4) (ret := (some .boolean)) (by decide) rfl ?_
  intro p e s m args below meth c s₁ B hml hv
  obtain ⟨rfl, hC, hP0⟩ := hv
  have hx := B.exec
  have hb := B.bytes
  have hr := B.returns
  have hts := atoms_spec (ws := wsX4_suits) B.pre
  have hown : s.vm.findClass RX4 = some m.cls := findClass_of_methodNamed B.named
  have hlocks := B.notSynchronized
  have hS : va_S (fun _ => False) s.heap s.heap [] := va_S.rf
  have hl := lv_entry ([.ref (pa), .int (nI s0), .ref (wa)]) (n := 4) (Nat.le_of_ble_eq_true rfl)
  rw [lg_entry_eq]
  generalize (lg_sl ([.ref (pa), .int (nI s0), .ref (wa)]) ++ List.replicate (4 - (lg_sl ([.ref (pa), .int (nI s0), .ref (wa)])).length) Slot.unset).toArray = ls at hl ⊢
  have hl : lv_has ls 4 [(0, .ref (pa)), (1, .int (nI s0)), (2, .ref (wa))] := hl
  have iRX4 : ∀ w ∈ wsX40, w ∈ wsX4_suits := by decide +kernel
  refine lv_iload_n hx hb dX4_suits_0 rfl (lv_at hl 1 rfl) ?_
  refine lv_aload_n hx hb dX4_suits_1 rfl (lv_at hl 0 rfl) ?_
  refine q_get (C := RX4) (T := TX4) (N := 4) hx hb hts iRX4 hown hC.1 (hP0 0 _ rfl) rfl 1 (by decide) (hts (.fieldLink RX4 15 "LogWeave$Pattern" "source" "I") (List.mem_of_getElem? (i := 1) (by decide +kernel))) rfl (v := .int (nI ps)) rfl dX4_suits_2 ?_
  refine q_eq (tgt := 10) hx hb (q31 hs0) (q31 hps) dX4_suits_5 (by decide) (fun c1 => ?_) (fun c1 => ?_)
  · skip
    refine lv_iconst (v := nI 0) hx hb dX4_suits_10 (by decide) ?_
    refine lv_istore_n (lv' := [(3, .int (nI 0)), (0, .ref (pa)), (1, .int (nI s0)), (2, .ref (wa))]) hx hb dX4_suits_11 rfl hl (by decide) rfl (fun ls hl => ?_)
    refine q_up 3 (fun i H locs ls => H = s.heap ∧ va_S (fun _ => False) s.heap H locs ∧ ∃ (h : Unit), (∀ j, j < i → (P j = 0 ∨ P j = x j + 1)) ∧ lv_has ls 4 [(0, .ref (pa)), (1, .int (nI s0)), (2, .ref (wa)), (3, .int (nI i))]) ?_ ?_ (i0 := 0) (Nat.zero_le _) ⟨rfl, hS, (), fun j hj => absurd hj (by omega), lv_sub hl [1, 2, 3, 0] rfl⟩
    · rintro _ locs ls ⟨rfl, hS, h, e_h, hl⟩
      refine lv_iload_n hx hb dX4_suits_12 rfl (lv_at hl 3 rfl) ?_
      refine lv_iconst (v := nI 3) hx hb dX4_suits_13 (by decide) ?_
      refine q_ge (tgt := 53) hx hb (by decide) (by decide) dX4_suits_14 (by decide) (fun g1 => ?_) (fun g1 => (by omega))
      refine lv_iconst (v := nI 1) hx hb dX4_suits_53 (by decide) ?_
      exact W.zret (v := nI 1) hx hb hr rfl (fun t ht _ => ⟨by rw [qB_t ⟨c1, e_h⟩], ht⟩) hS.2.2 dX4_suits_54
    · rintro i _ locs ls hi ⟨rfl, hS, h, e_h, hl⟩ ih
      refine lv_iload_n hx hb dX4_suits_12 rfl (lv_at hl 3 rfl) ?_
      refine lv_iconst (v := nI 3) hx hb dX4_suits_13 (by decide) ?_
      refine q_ge (tgt := 53) hx hb (by omega) (by decide) dX4_suits_14 (by decide) (fun g2 => (by omega)) (fun g2 => ?_)
      refine lv_aload_n hx hb dX4_suits_17 rfl (lv_at hl 0 rfl) ?_
      refine q_get (C := RX4) (T := TX4) (N := 4) hx hb hts iRX4 hown hC.1 (hP0 0 _ rfl) rfl 2 (by decide) (hts (.fieldLink RX4 18 "LogWeave$Pattern" "words" "LLogWeave$Words;") (List.mem_of_getElem? (i := 2) (by decide +kernel))) rfl (v := .ref (pw)) rfl dX4_suits_18 ?_
      refine lv_iload_n hx hb dX4_suits_21 rfl (lv_at hl 3 rfl) ?_
      refine q_v (va_runVN (C := RX6) (As := [.int (nI i)]) (rest := []) ⟨hx, hb, hml, hown, hts⟩ (m_at l G pw (fun k => nI (P k) - 1) i (by omega)) ⟨va_cnB 1 hts gX4_suits_X6_at_n22 rfl rfl rfl (qm_RX4_22 hC) (hts (.initialized RX6) (List.mem_of_getElem? (i := 4) (by decide +kernel))) (by decide +kernel) ⟨Nat.le_of_ble_eq_true rfl, Nat.le_of_ble_eq_true rfl⟩, (hts (.instanceMethod yX6_at) (List.mem_of_getElem? (i := 3) (by decide +kernel))), (hts (.selects RX6 yX6_at yX6_at) (List.mem_of_getElem? (i := 5) (by decide +kernel)))⟩ ⟨qO.blind, qrecv hC (hP0 1 _ rfl) rfl, qO.pre hC (va_P1 (hP0 1 _ rfl))⟩ rfl rfl hl.1 rfl (lv_room (Nat.le_of_ble_eq_true rfl)) dX4_suits_22 ⟨Nat.le_of_ble_eq_true rfl, Nat.le_of_ble_eq_true rfl⟩) hS (fun _ h => h.elim) (fun locs hS => ?_)
      refine lv_iconst (v := -1) hx hb dX4_suits_25 (by decide) ?_
      refine lv_icmp_eq (tgt := 47) hx hb dX4_suits_26 (by decide) (fun c3 => ?_) (fun c3 => ?_)
      · skip
        refine lv_iinc (v := nI (i + 1)) (lv' := [(3, .int (nI (i + 1))), (0, .ref (pa)), (1, .int (nI s0)), (2, .ref (wa))]) hx hb dX4_suits_47 hl (k := 3) rfl (nI_1 i) (by decide) rfl (fun ls hl => ?_)
        refine lv_goto (tgt := 12) hx hb dX4_suits_50 (by decide) ?_
        exact ih _ locs ls ⟨rfl, hS, (), fun j hj => (Nat.lt_succ_iff_lt_or_eq.mp hj).elim (e_h j) (fun z => by rw [z]; exact Or.inl ((q_m0 (hP _)).mp c3)), lv_sub hl [1, 2, 3, 0] rfl⟩
      · skip
        refine lv_aload_n hx hb dX4_suits_29 rfl (lv_at hl 0 rfl) ?_
        refine q_get (C := RX4) (T := TX4) (N := 4) hx hb hts iRX4 hown hC.1 (hP0 0 _ rfl) rfl 2 (by decide) (hts (.fieldLink RX4 18 "LogWeave$Pattern" "words" "LLogWeave$Words;") (List.mem_of_getElem? (i := 2) (by decide +kernel))) rfl (v := .ref (pw)) rfl dX4_suits_30 ?_
        refine lv_iload_n hx hb dX4_suits_33 rfl (lv_at hl 3 rfl) ?_
        refine q_v (va_runVN (C := RX6) (As := [.int (nI i)]) (rest := []) ⟨hx, hb, hml, hown, hts⟩ (m_at l G pw (fun k => nI (P k) - 1) i (by omega)) ⟨va_cnB 1 hts gX4_suits_X6_at_n22 rfl rfl rfl (qm_RX4_22 hC) (hts (.initialized RX6) (List.mem_of_getElem? (i := 4) (by decide +kernel))) (by decide +kernel) ⟨Nat.le_of_ble_eq_true rfl, Nat.le_of_ble_eq_true rfl⟩, (hts (.instanceMethod yX6_at) (List.mem_of_getElem? (i := 3) (by decide +kernel))), (hts (.selects RX6 yX6_at yX6_at) (List.mem_of_getElem? (i := 5) (by decide +kernel)))⟩ ⟨qO.blind, qrecv hC (hP0 1 _ rfl) rfl, qO.pre hC (va_P1 (hP0 1 _ rfl))⟩ rfl rfl hl.1 rfl (lv_room (Nat.le_of_ble_eq_true rfl)) dX4_suits_34 ⟨Nat.le_of_ble_eq_true rfl, Nat.le_of_ble_eq_true rfl⟩) hS (fun _ h => h.elim) (fun locs hS => ?_)
        refine lv_aload_n hx hb dX4_suits_37 rfl (lv_at hl 2 rfl) ?_
        refine lv_iload_n hx hb dX4_suits_38 rfl (lv_at hl 3 rfl) ?_
        refine q_v (va_runVN (C := RX6) (As := [.int (nI i)]) (rest := [.int (nI (P i) - 1)]) ⟨hx, hb, hml, hown, hts⟩ (m_at l G wa (fun k => nI (x k)) i (by omega)) ⟨va_cnB 1 hts gX4_suits_X6_at_n22 rfl rfl rfl (qm_RX4_22 hC) (hts (.initialized RX6) (List.mem_of_getElem? (i := 4) (by decide +kernel))) (by decide +kernel) ⟨Nat.le_of_ble_eq_true rfl, Nat.le_of_ble_eq_true rfl⟩, (hts (.instanceMethod yX6_at) (List.mem_of_getElem? (i := 3) (by decide +kernel))), (hts (.selects RX6 yX6_at yX6_at) (List.mem_of_getElem? (i := 5) (by decide +kernel)))⟩ ⟨qO.blind, qrecv hC (hP0 2 _ rfl) rfl, qO.pre hC (va_P1 (hP0 2 _ rfl))⟩ rfl rfl hl.1 rfl (lv_room (Nat.le_of_ble_eq_true rfl)) dX4_suits_39 ⟨Nat.le_of_ble_eq_true rfl, Nat.le_of_ble_eq_true rfl⟩) hS (fun _ h => h.elim) (fun locs hS => ?_)
        refine lv_icmp_eq (tgt := 47) hx hb dX4_suits_42 (by decide) (fun c4 => ?_) (fun c4 => ?_)
        · skip
          refine lv_iinc (v := nI (i + 1)) (lv' := [(3, .int (nI (i + 1))), (0, .ref (pa)), (1, .int (nI s0)), (2, .ref (wa))]) hx hb dX4_suits_47 hl (k := 3) rfl (nI_1 i) (by decide) rfl (fun ls hl => ?_)
          refine lv_goto (tgt := 12) hx hb dX4_suits_50 (by decide) ?_
          exact ih _ locs ls ⟨rfl, hS, (), fun j hj => (Nat.lt_succ_iff_lt_or_eq.mp hj).elim (e_h j) (fun z => by rw [z]; exact Or.inr ((q_m1 (hP _) (Nat.lt_succ_of_lt (hx0 _ hi))).mp c4)), lv_sub hl [1, 2, 3, 0] rfl⟩
        · skip
          refine lv_iconst (v := nI 0) hx hb dX4_suits_45 (by decide) ?_
          exact W.zret (v := nI 0) hx hb hr rfl (fun t ht _ => ⟨by rw [qB_f (fun h => (h.2 i hi).elim (fun z => c3 ((q_m0 (hP _)).mpr z)) (fun z => c4 ((q_m1 (hP _) (Nat.lt_succ_of_lt (hx0 _ hi))).mpr z)))], ht⟩) hS.2.2 dX4_suits_46
  · skip
    refine lv_iconst (v := nI 0) hx hb dX4_suits_8 (by decide) ?_
    exact W.zret (v := nI 0) hx hb hr rfl (fun t ht _ => ⟨by rw [qB_f (fun h => c1 h.1)], ht⟩) hS.2.2 dX4_suits_9
set_option maxHeartbeats 4000000 in
set_option maxRecDepth 100000 in
theorem m_differences (l : Launch) (G : QG) (a b : Nat) (P O : Nat → Nat) (hP : ∀ k, P k < 1073741824) (hO : ∀ k, O k < 1073741824) : Met l yX6_differences wsX6_differences ({ frames := 1, cells := 0, slots := 0, locals := 21 } : Room) (qO G [(a, .inr (9, [.int (nI (P 0) - 1), .int (nI (P 1) - 1), .int (nI (P 2) - 1)])), (b, .inr (9, [.int (nI (O 0) - 1), .int (nI (O 1) - 1), .int (nI (O 2) - 1)]))] [.ref (a), .ref (b)]) (qPV (some (.int (nI (qdf P O 3))))) 0 0 (fun _ => False) := by
  refine Met.ofW (cc := cX6_differences) (maxL := 4) (ret := (some .int)) (by decide) rfl ?_
  intro p e s m args below meth c s₁ B hml hv
  obtain ⟨rfl, hC, hP0⟩ := hv
  have hx := B.exec
  have hb := B.bytes
  have hr := B.returns
  have hts := atoms_spec (ws := wsX6_differences) B.pre
  have hown : s.vm.findClass RX6 = some m.cls := findClass_of_methodNamed B.named
  have hlocks := B.notSynchronized
  have hS : va_S (fun _ => False) s.heap s.heap [] := va_S.rf
  have hl := lv_entry ([.ref (a), .ref (b)]) (n := 4) (Nat.le_of_ble_eq_true rfl)
  rw [lg_entry_eq]
  generalize (lg_sl ([.ref (a), .ref (b)]) ++ List.replicate (4 - (lg_sl ([.ref (a), .ref (b)])).length) Slot.unset).toArray = ls at hl ⊢
  have hl : lv_has ls 4 [(0, .ref (a)), (1, .ref (b))] := hl
  refine lv_iconst (v := nI 0) hx hb dX6_differences_0 (by decide) ?_
  refine lv_istore_n (lv' := [(2, .int (nI 0)), (0, .ref (a)), (1, .ref (b))]) hx hb dX6_differences_1 rfl hl (by decide) rfl (fun ls hl => ?_)
  refine lv_iconst (v := nI 0) hx hb dX6_differences_2 (by decide) ?_
  refine lv_istore_n (lv' := [(3, .int (nI 0)), (2, .int (nI 0)), (0, .ref (a)), (1, .ref (b))]) hx hb dX6_differences_3 rfl hl (by decide) rfl (fun ls hl => ?_)
  refine q_up 3 (fun i H locs ls => H = s.heap ∧ va_S (fun _ => False) s.heap H locs ∧ ∃ (v : Nat), (v = qdf P O i) ∧ lv_has ls 4 [(0, .ref (a)), (1, .ref (b)), (2, .int (nI v)), (3, .int (nI i))]) ?_ ?_ (i0 := 0) (Nat.zero_le _) ⟨rfl, hS, 0, rfl, lv_sub hl [2, 3, 1, 0] rfl⟩
  · rintro _ locs ls ⟨rfl, hS, v, e_v, hl⟩
    refine lv_iload_n hx hb dX6_differences_4 rfl (lv_at hl 3 rfl) ?_
    refine lv_iconst (v := nI 3) hx hb dX6_differences_5 (by decide) ?_
    refine q_ge (tgt := 31) hx hb (by decide) (by decide) dX6_differences_6 (by decide) (fun g1 => ?_) (fun g1 => (by omega))
    refine lv_iload_n hx hb dX6_differences_31 rfl (lv_at hl 2 rfl) ?_
    exact W.iret hx hb hr (fun t ht _ => ⟨by rw [e_v], ht⟩) hS.2.2 dX6_differences_32
  · rintro i _ locs ls hi ⟨rfl, hS, v, e_v, hl⟩ ih
    refine lv_iload_n hx hb dX6_differences_4 rfl (lv_at hl 3 rfl) ?_
    refine lv_iconst (v := nI 3) hx hb dX6_differences_5 (by decide) ?_
    refine q_ge (tgt := 31) hx hb (by omega) (by decide) dX6_differences_6 (by decide) (fun g2 => (by omega)) (fun g2 => ?_)
    refine lv_aload_n hx hb dX6_differences_9 rfl (lv_at hl 0 rfl) ?_
    refine lv_iload_n hx hb dX6_differences_10 rfl (lv_at hl 3 rfl) ?_
    refine q_v (va_runV (As := [.int (nI i)]) (rest := []) ⟨hx, hb, hml, hown, hts⟩ (m_at l G a (fun k => nI (P k) - 1) i (by omega)) (cwV 1 hts gX6_differences_X6_at rfl rfl rfl (by decide +kernel) ⟨Nat.le_of_ble_eq_true rfl, Nat.le_of_ble_eq_true rfl⟩) ⟨qO.blind, qrecv hC (hP0 0 _ rfl) rfl, qO.pre hC (va_P1 (hP0 0 _ rfl))⟩ rfl rfl hl.1 rfl (lv_room (Nat.le_of_ble_eq_true rfl)) dX6_differences_11 ⟨Nat.le_of_ble_eq_true rfl, Nat.le_of_ble_eq_true rfl⟩) hS (fun _ h => h.elim) (fun locs hS => ?_)
    refine lv_aload_n hx hb dX6_differences_14 rfl (lv_at hl 1 rfl) ?_
    refine lv_iload_n hx hb dX6_differences_15 rfl (lv_at hl 3 rfl) ?_
    refine q_v (va_runV (As := [.int (nI i)]) (rest := [.int (nI (P i) - 1)]) ⟨hx, hb, hml, hown, hts⟩ (m_at l G b (fun k => nI (O k) - 1) i (by omega)) (cwV 1 hts gX6_differences_X6_at rfl rfl rfl (by decide +kernel) ⟨Nat.le_of_ble_eq_true rfl, Nat.le_of_ble_eq_true rfl⟩) ⟨qO.blind, qrecv hC (hP0 1 _ rfl) rfl, qO.pre hC (va_P1 (hP0 1 _ rfl))⟩ rfl rfl hl.1 rfl (lv_room (Nat.le_of_ble_eq_true rfl)) dX6_differences_16 ⟨Nat.le_of_ble_eq_true rfl, Nat.le_of_ble_eq_true rfl⟩) hS (fun _ h => h.elim) (fun locs hS => ?_)
    refine lv_icmp_eq (tgt := 25) hx hb dX6_differences_19 (by decide) (fun c2 => ?_) (fun c2 => ?_)
    · skip
      refine lv_iinc (v := nI (i + 1)) (lv' := [(3, .int (nI (i + 1))), (0, .ref (a)), (1, .ref (b)), (2, .int (nI v))]) hx hb dX6_differences_25 hl (k := 3) rfl (nI_1 i) (by decide) rfl (fun ls hl => ?_)
      refine lv_goto (tgt := 4) hx hb dX6_differences_28 (by decide) ?_
      exact ih _ locs ls ⟨rfl, hS, v, by rw [e_v, qdf, qB_f (fun z => z ((q_mm (hP _) (hO _)).mp c2))]; rfl, lv_sub hl [1, 2, 3, 0] rfl⟩
    · skip
      refine lv_iinc (v := nI (v + 1)) (lv' := [(2, .int (nI (v + 1))), (0, .ref (a)), (1, .ref (b)), (3, .int (nI i))]) hx hb dX6_differences_22 hl (k := 2) rfl (nI_1 v) (by decide) rfl (fun ls hl => ?_)
      refine lv_iinc (v := nI (i + 1)) (lv' := [(3, .int (nI (i + 1))), (2, .int (nI (v + 1))), (0, .ref (a)), (1, .ref (b))]) hx hb dX6_differences_25 hl (k := 3) rfl (nI_1 i) (by decide) rfl (fun ls hl => ?_)
      refine lv_goto (tgt := 4) hx hb dX6_differences_28 (by decide) ?_
      exact ih _ locs ls ⟨rfl, hS, (v + 1), by rw [e_v, qdf, qB_t (show P i ≠ O i from fun z => c2 ((q_mm (hP _) (hO _)).mpr z))], lv_sub hl [2, 3, 1, 0] rfl⟩
set_option maxHeartbeats 4000000 in
set_option maxRecDepth 100000 in
theorem m_keptBytes (l : Launch) (G : QG) (es : Nat) (A : Nat → Prop) (σ ad : QSt) (hF : qWF σ) (s0 : Nat) (hs0 : s0 < 1073741824) : Met l yX7_keptBytes wsX7_keptBytes ({ frames := 3, cells := 0, slots := 0, locals := 64 } : Room) (qR G es A σ ad [.ref (ad 0 0), .int (nI s0)]) (qPV (some (.int (nI (qkept σ s0))))) 0 0 (fun _ => False) := by
  refine Met.ofW (cc := cX7_keptBytes) (maxL := 5) (ret := (some .int)) (by decide) rfl ?_
  intro p e s m args below meth c s₁ B hml hv
  obtain ⟨rfl, hC, hW⟩ := hv
  have hx := B.exec
  have hb := B.bytes
  have hr := B.returns
  have hts := atoms_spec (ws := wsX7_keptBytes) B.pre
  have hown : s.vm.findClass RX7 = some m.cls := findClass_of_methodNamed B.named
  have hlocks := B.notSynchronized
  have hB := hF.1
  have hn := hF.n
  have hS : va_S (fun _ => False) s.heap s.heap [] := va_S.rf
  have hl := lv_entry ([.ref (ad 0 0), .int (nI s0)]) (n := 5) (Nat.le_of_ble_eq_true rfl)
  rw [lg_entry_eq]
  generalize (lg_sl ([.ref (ad 0 0), .int (nI s0)]) ++ List.replicate (5 - (lg_sl ([.ref (ad 0 0), .int (nI s0)])).length) Slot.unset).toArray = ls at hl ⊢
  have hl : lv_has ls 5 [(0, .ref (ad 0 0)), (1, .int (nI s0))] := hl
  have iRX7 : ∀ w ∈ wsX70, w ∈ wsX7_keptBytes := by decide +kernel
  have iRX3 : ∀ w ∈ wsX30, w ∈ wsX7_keptBytes := by decide +kernel
  refine lv_iconst (v := nI 0) hx hb dX7_keptBytes_0 (by decide) ?_
  refine lv_istore_n (lv' := [(2, .int (nI 0)), (0, .ref (ad 0 0)), (1, .int (nI s0))]) hx hb dX7_keptBytes_1 rfl hl (by decide) rfl (fun ls hl => ?_)
  refine lv_iconst (v := nI 0) hx hb dX7_keptBytes_2 (by decide) ?_
  refine lv_istore_n (lv' := [(3, .int (nI 0)), (2, .int (nI 0)), (0, .ref (ad 0 0)), (1, .int (nI s0))]) hx hb dX7_keptBytes_3 rfl hl (by decide) rfl (fun ls hl => ?_)
  refine q_up (σ 0 0) (fun i H locs ls => H = s.heap ∧ va_S (fun _ => False) s.heap H locs ∧ ∃ (v : Nat), (v = qsum (qkp σ s0) i) ∧ lv_has ls 5 [(0, .ref (ad 0 0)), (1, .int (nI s0)), (2, .int (nI v)), (3, .int (nI i))]) ?_ ?_ (i0 := 0) (Nat.zero_le _) ⟨rfl, hS, 0, rfl, lv_sub hl [2, 3, 1, 0] rfl⟩
  · rintro _ locs ls ⟨rfl, hS, v, e_v, hl⟩
    refine lv_iload_n hx hb dX7_keptBytes_4 rfl (lv_at hl 3 rfl) ?_
    refine lv_aload_n hx hb dX7_keptBytes_5 rfl (lv_at hl 0 rfl) ?_
    refine q_get (C := RX7) (T := TX7) (N := 7) hx hb hts iRX7 hown hC.1 (hW.to qLV0) rfl 0 (by decide) (hts (.fieldLink RX7 10 "LogWeave" "lineList" "Ljava/util/ArrayList;") (List.mem_of_getElem? (i := 1) (by decide +kernel))) rfl (v := .ref (ad 1 0)) rfl dX7_keptBytes_6 ?_
    refine q_v (va_runV (As := []) (rest := [.int (nI (σ 0 0))]) ⟨hx, hb, hml, hown, hts⟩ (m_size l G (ad 1 0) _ _ (nI (σ 0 0))) (cwV 0 hts gX7_keptBytes_Jx4a65c_size_8abf5 rfl rfl rfl (by decide +kernel) ⟨Nat.le_of_ble_eq_true rfl, Nat.le_of_ble_eq_true rfl⟩) ⟨qO.blind, qrecv hC (hW.to (qLV1 (j := 0) (by decide))) rfl, qO.pre hC (hW.lob (by decide))⟩ rfl rfl hl.1 rfl (lv_room (Nat.le_of_ble_eq_true rfl)) dX7_keptBytes_9 ⟨Nat.le_of_ble_eq_true rfl, Nat.le_of_ble_eq_true rfl⟩) hS (fun _ h => h.elim) (fun locs hS => ?_)
    refine q_ge (tgt := 61) hx hb (q31 (hB _ _)) (q31 (hB _ _)) dX7_keptBytes_12 (by decide) (fun g1 => ?_) (fun g1 => (by omega))
    refine lv_iload_n hx hb dX7_keptBytes_61 rfl (lv_at hl 2 rfl) ?_
    exact W.iret hx hb hr (fun t ht _ => ⟨by rw [e_v]; rfl, ht⟩) hS.2.2 dX7_keptBytes_62
  · rintro i _ locs ls hi ⟨rfl, hS, v, e_v, hl⟩ ih
    refine lv_iload_n hx hb dX7_keptBytes_4 rfl (lv_at hl 3 rfl) ?_
    refine lv_aload_n hx hb dX7_keptBytes_5 rfl (lv_at hl 0 rfl) ?_
    refine q_get (C := RX7) (T := TX7) (N := 7) hx hb hts iRX7 hown hC.1 (hW.to qLV0) rfl 0 (by decide) (hts (.fieldLink RX7 10 "LogWeave" "lineList" "Ljava/util/ArrayList;") (List.mem_of_getElem? (i := 1) (by decide +kernel))) rfl (v := .ref (ad 1 0)) rfl dX7_keptBytes_6 ?_
    refine q_v (va_runV (As := []) (rest := [.int (nI i)]) ⟨hx, hb, hml, hown, hts⟩ (m_size l G (ad 1 0) _ _ (nI (σ 0 0))) (cwV 0 hts gX7_keptBytes_Jx4a65c_size_8abf5 rfl rfl rfl (by decide +kernel) ⟨Nat.le_of_ble_eq_true rfl, Nat.le_of_ble_eq_true rfl⟩) ⟨qO.blind, qrecv hC (hW.to (qLV1 (j := 0) (by decide))) rfl, qO.pre hC (hW.lob (by decide))⟩ rfl rfl hl.1 rfl (lv_room (Nat.le_of_ble_eq_true rfl)) dX7_keptBytes_9 ⟨Nat.le_of_ble_eq_true rfl, Nat.le_of_ble_eq_true rfl⟩) hS (fun _ h => h.elim) (fun locs hS => ?_)
    refine q_ge (tgt := 61) hx hb (by omega) (q31 (hB _ _)) dX7_keptBytes_12 (by decide) (fun g2 => (by omega)) (fun g2 => ?_)
    refine lv_aload_n hx hb dX7_keptBytes_15 rfl (lv_at hl 0 rfl) ?_
    refine q_get (C := RX7) (T := TX7) (N := 7) hx hb hts iRX7 hown hC.1 (hW.to qLV0) rfl 0 (by decide) (hts (.fieldLink RX7 10 "LogWeave" "lineList" "Ljava/util/ArrayList;") (List.mem_of_getElem? (i := 1) (by decide +kernel))) rfl (v := .ref (ad 1 0)) rfl dX7_keptBytes_16 ?_
    refine lv_iload_n hx hb dX7_keptBytes_19 rfl (lv_at hl 3 rfl) ?_
    refine q_v (va_runV (As := [.int (nI i)]) (rest := []) ⟨hx, hb, hml, hown, hts⟩ (m_get l G (ad 1 0) (ad 2 0) (σ 32 0) (σ 0 0) (fun i => if i < σ 0 0 then some (ad (4 + 2 * 0) i) else none) (.int (nI (σ 16 0))) i (ad 4 i) hi (hF.c 0) (hB _ _) (if_pos hi)) (cwV 1 hts gX7_keptBytes_Jx4a65c_get_915e3 rfl rfl rfl (by decide +kernel) ⟨Nat.le_of_ble_eq_true rfl, Nat.le_of_ble_eq_true rfl⟩) ⟨qO.blind, qrecv hC (hW.to (qLV1 (j := 0) (by decide))) rfl, qO.pre hC (hW.list hF (J := 0) (by decide) hi)⟩ rfl rfl hl.1 rfl (lv_room (Nat.le_of_ble_eq_true rfl)) dX7_keptBytes_20 ⟨Nat.le_of_ble_eq_true rfl, Nat.le_of_ble_eq_true rfl⟩) hS (fun _ h => h.elim) (fun locs hS => ?_)
    refine va_castS hx hb hown (hts (.classLink RX7 74 "LogWeave$Line") (List.mem_of_getElem? (i := 2) (by decide +kernel))) (hC.1.1 6 _ rfl).2 (qrecv hC (hW.to (qLV4 hi)) rfl) dX7_keptBytes_23 ?_
    refine lv_astore (lv' := [(4, .ref (ad 4 i)), (0, .ref (ad 0 0)), (1, .int (nI s0)), (2, .int (nI v)), (3, .int (nI i))]) hx hb dX7_keptBytes_26 hl (by decide) rfl (fun ls hl => ?_)
    refine lv_aload hx hb dX7_keptBytes_28 (lv_at hl 0 rfl) ?_
    refine q_getN (C := RX3) (T := TX3) (N := 8) hx hb hts iRX3 hown hC.1 (hW.to (qLV4 hi)) rfl 0 (by decide) (va_Nw.use rfl (qf_RX7_157 hC)) rfl (v := .int (nI (σ 64 i))) rfl dX7_keptBytes_30 ?_
    refine lv_iload_n hx hb dX7_keptBytes_33 rfl (lv_at hl 2 rfl) ?_
    refine q_ne (tgt := 55) hx hb (q31 (hB _ _)) (q31 hs0) dX7_keptBytes_34 (by decide) (fun c2 => ?_) (fun c2 => ?_)
    · skip
      refine lv_iinc (v := nI (i + 1)) (lv' := [(3, .int (nI (i + 1))), (4, .ref (ad 4 i)), (0, .ref (ad 0 0)), (1, .int (nI s0)), (2, .int (nI v))]) hx hb dX7_keptBytes_55 hl (k := 4) rfl (nI_1 i) (by decide) rfl (fun ls hl => ?_)
      refine lv_goto (tgt := 4) hx hb dX7_keptBytes_58 (by decide) ?_
      exact ih _ locs ls ⟨rfl, hS, v, by rw [e_v, qsum, qkp, if_neg (fun h => c2 h.1)]; rfl, lv_sub hl [2, 3, 4, 0] rfl⟩
    · skip
      refine lv_aload hx hb dX7_keptBytes_37 (lv_at hl 0 rfl) ?_
      refine q_getN (C := RX3) (T := TX3) (N := 8) hx hb hts iRX3 hown hC.1 (hW.to (qLV4 hi)) rfl 6 (by decide) (va_Nw.use rfl (qf_RX7_103 hC)) rfl (v := .int (nI (σ 69 i))) rfl dX7_keptBytes_39 ?_
      refine lv_bipush (v := nI 107) hx hb dX7_keptBytes_42 (by decide) ?_
      refine q_ne (tgt := 55) hx hb (q31 (hB _ _)) (by decide) dX7_keptBytes_44 (by decide) (fun c3 => ?_) (fun c3 => ?_)
      · skip
        refine lv_iinc (v := nI (i + 1)) (lv' := [(3, .int (nI (i + 1))), (4, .ref (ad 4 i)), (0, .ref (ad 0 0)), (1, .int (nI s0)), (2, .int (nI v))]) hx hb dX7_keptBytes_55 hl (k := 4) rfl (nI_1 i) (by decide) rfl (fun ls hl => ?_)
        refine lv_goto (tgt := 4) hx hb dX7_keptBytes_58 (by decide) ?_
        exact ih _ locs ls ⟨rfl, hS, v, by rw [e_v, qsum, qkp, if_neg (fun h => c3 h.2)]; rfl, lv_sub hl [2, 3, 4, 0] rfl⟩
      · skip
        refine lv_iload_n hx hb dX7_keptBytes_47 rfl (lv_at hl 3 rfl) ?_
        refine lv_aload hx hb dX7_keptBytes_48 (lv_at hl 0 rfl) ?_
        refine q_getN (C := RX3) (T := TX3) (N := 8) hx hb hts iRX3 hown hC.1 (hW.to (qLV4 hi)) rfl 3 (by decide) (va_Nw.use rfl (qf_RX7_273 hC)) rfl (v := .int (nI (σ 66 i))) rfl dX7_keptBytes_50 ?_
        refine lv_iadd hx hb dX7_keptBytes_53 ?_
        refine q_ti (nI_add v (σ 66 i)) ?_
        refine lv_istore_n (lv' := [(2, .int (nI (v + (σ 66 i)))), (4, .ref (ad 4 i)), (0, .ref (ad 0 0)), (1, .int (nI s0)), (3, .int (nI i))]) hx hb dX7_keptBytes_54 rfl hl (by decide) rfl (fun ls hl => ?_)
        refine lv_iinc (v := nI (i + 1)) (lv' := [(3, .int (nI (i + 1))), (2, .int (nI (v + (σ 66 i)))), (4, .ref (ad 4 i)), (0, .ref (ad 0 0)), (1, .int (nI s0))]) hx hb dX7_keptBytes_55 hl (k := 4) rfl (nI_1 i) (by decide) rfl (fun ls hl => ?_)
        refine lv_goto (tgt := 4) hx hb dX7_keptBytes_58 (by decide) ?_
        exact ih _ locs ls ⟨rfl, hS, (v + σ 66 i), by rw [e_v, qsum, qkp, if_pos ⟨c2, c3⟩], lv_sub hl [3, 4, 1, 0] rfl⟩
