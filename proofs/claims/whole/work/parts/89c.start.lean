/-! the law's start -/
theorem inL0 : ∀ w ∈ wsL_law0, w ∈ wsL_law := fun _ h => List.mem_append_left _ (List.mem_append_left _ (List.mem_append_left _ (List.mem_append_left _ (List.mem_append_left _ (List.mem_append_left _ (List.mem_append_left _ (h)))))))
theorem lD_0 {s : State} {h2 h4 h5 h6 : Nat} (a : s.heap.size ≤ h2) (b : h2 ≤ h4) (c : h5 = h4 + 1) (d : h6 = h5 + 1) : lD s (fun q => (s.heap.size ≤ q ∧ q < h2) ∨ h6 ≤ q) (fun q => h2 ≤ q ∧ q < h4) h4 h5 h6 := by
  unfold lD
  refine ⟨?_, ?_, ?_, ?_, ?_, ?_, ?_, ?_, ?_, ?_, ?_⟩
  · intro q h; rcases h with h | h <;> omega
  · intro q h; obtain ⟨h, h'⟩ := h; omega
  · omega
  · omega
  · intro h; rcases h with h | h <;> omega
  · intro h; rcases h with h | h <;> omega
  · intro h; obtain ⟨h, h'⟩ := h; omega
  · intro h; obtain ⟨h, h'⟩ := h; omega
  · omega
  · intro q h h9; obtain ⟨h9, h'⟩ := h9; rcases h with h | h <;> omega
  · intro q h; exact Or.inr h
section LQ
variable {p : Program} {l : Launch} {e : Env} {s : State} {m : MethodId} {below : List Frame} {meth : Method} {c : Code} {b L : Nat} {xs : Nat → Int32} {G : QG} {es : Nat}
set_option maxHeartbeats 4000000 in
set_option maxRecDepth 100000 in
theorem l_start (hx : p.tables.exec = Jvm.exec) (hb : c.code = cL_law) (hml : c.maxLocals = 9) (hown : s.vm.findClass RL = some m.cls) (hts : ∀ w ∈ wsL_law, w.before #[Value.ref b] s = true) (hlocks : meth.locks = false) (hst : l.stackTraces = false) (hX : va_X b L xs s s.heap) (hbl : b < s.heap.size) (hC : qCX G s) (hZ0 : qSZ es (lF s) s s.heap) (hzT : qStr s) (hzN : qNc s) (hL : L ≤ 4096) {Q : State → Prop} (hend : ∀ (H : Heap) (ls : Array Slot), va_S (lF s) s.heap H [] → W p l e room_1 s m #[Value.ref b] below meth c H [] 603072 7223402 Q (F0 m 2003 ls [])) {ls : Array Slot} (hl : lv_has ls 9 [(0, .ref b)]) : W p l e room_1 s m #[Value.ref b] below meth c s.heap [] 0 0 Q (F0 m 0 ls []) := by
  have hS : va_S (lF s) s.heap s.heap [] := va_S.rf
  refine q_new (own := RL) (C := RX7) (T := TX7) (N := 7) (ci := 10) hx hb hts inlX7 tyX7 tyX7_ok hown (hts (.classLink RL 8 RX7) (inL0 _ (List.mem_of_getElem? (i := 0) (by decide +kernel)))) (hts (.instantiable RX7 7) (inL0 _ (List.mem_of_getElem? (i := 1) (by decide +kernel)))) (hts (.initialized RX7) (inL0 _ (List.mem_of_getElem? (i := 2) (by decide +kernel)))) hC.1 hS rfl [.null, .null, .null, .null, .null, .null, .int (nI 0)] (fun j hj => by match j, hj with | 0, _ => rfl | 1, _ => rfl | 2, _ => rfl | 3, _ => rfl | 4, _ => rfl | 5, _ => rfl | 6, _ => rfl) (by show 0 + 1 ≤ 603072; omega) (by show 0 + 7 ≤ 7223402; omega) dL_law_0 (fun H1 hat hz1 hk1 hS => ?_)
  refine lv_dup hx hb dL_law_3 rfl ?_
  refine q_wn (va_runI (As := []) (rest := [.ref (s.heap.size)]) ⟨hx, hb, hml, hown, hts⟩ (m_initStore l G es (lF s) H1.size s.heap.size (fun q h => Nat.le_trans (by omega) h)) (cwI 0 hts gL_law_X7_init rfl rfl rfl (hts (.initialized RX7) (inL0 _ (List.mem_of_getElem? (i := 2) (by decide +kernel)))) (hts (.methodLink RL 111 yX7_init) (inL0 _ (List.mem_of_getElem? (i := 8) (by decide +kernel)))) (hts (.instanceMethod yX7_init) (inL0 _ (List.mem_of_getElem? (i := 9) (by decide +kernel)))) rfl (by decide +kernel) ⟨Nat.le_of_ble_eq_true rfl, Nat.le_of_ble_eq_true rfl⟩) ⟨qKz.blind, qKz.pre hC hat (Nat.le_refl _) rfl hZ0 hS (fun _ h => h)⟩ rfl rfl hl.1 rfl (lv_room (Nat.le_of_ble_eq_true rfl)) dL_law_4 ⟨Nat.le_of_ble_eq_true rfl, Nat.le_of_ble_eq_true rfl⟩) hS (fun _ h => h) (fun _ h => h) (fun H2 locs hq hz2 hk2 hS => ?_)
  obtain ⟨q0, q1, q2, q3, q4, q5, hP, hDs⟩ := hq
  refine lv_astore_n (lv' := [(1, .ref (s.heap.size)), (0, .ref b)]) hx hb dL_law_7 rfl hl (by decide) rfl (fun ls hl => ?_)
  refine q_new (own := RL) (C := RX8) (T := TX8) (N := 36) (ci := 11) hx hb hts inlX8 tyX8 tyX8_ok hown (hts (.classLink RL 112 RX8) (inL0 _ (List.mem_of_getElem? (i := 3) (by decide +kernel)))) (hts (.instantiable RX8 36) (inL0 _ (List.mem_of_getElem? (i := 4) (by decide +kernel)))) (hts (.initialized RX8) (inL0 _ (List.mem_of_getElem? (i := 5) (by decide +kernel)))) hC.1 hS rfl [.int (nI 0), .int (nI 0), .int (nI 0), .null, .null, .null, .null, .null, .null, .null, .int (nI 0), .null, .null, .null, .int (nI 0), .null, .null, .null, .null, .null, .null, .null, .null, .null, .null, .int (nI 0), .null, .null, .null, .null, .null, .int (nI 0), .null, .null, .null, .null] (fun j hj => by match j, hj with | 0, _ => rfl | 1, _ => rfl | 2, _ => rfl | 3, _ => rfl | 4, _ => rfl | 5, _ => rfl | 6, _ => rfl | 7, _ => rfl | 8, _ => rfl | 9, _ => rfl | 10, _ => rfl | 11, _ => rfl | 12, _ => rfl | 13, _ => rfl | 14, _ => rfl | 15, _ => rfl | 16, _ => rfl | 17, _ => rfl | 18, _ => rfl | 19, _ => rfl | 20, _ => rfl | 21, _ => rfl | 22, _ => rfl | 23, _ => rfl | 24, _ => rfl | 25, _ => rfl | 26, _ => rfl | 27, _ => rfl | 28, _ => rfl | 29, _ => rfl | 30, _ => rfl | 31, _ => rfl | 32, _ => rfl | 33, _ => rfl | 34, _ => rfl | 35, _ => rfl | n9 + 36, h9 => exact absurd h9 (by omega)) (by show 0 + 1 + 6 + 1 ≤ 603072; omega) (by show 0 + 7 + 19 + 36 ≤ 7223402; omega) dL_law_8 (fun H3 hat3 hz3 hk3 hS => ?_)
  refine lv_dup hx hb dL_law_11 rfl ?_
  have hs2 : s.heap.size ≤ H2.size := by omega
  refine q_wn (va_runI (As := []) (rest := [.ref (H2.size)]) ⟨hx, hb, hml, hown, hts⟩ (m_initRef l G (fun q => H2.size ≤ q) H3.size H2.size (fun q h => Nat.le_trans (by omega) h)) (cwI 0 hts gL_law_X8_init rfl rfl rfl (hts (.initialized RX8) (inL0 _ (List.mem_of_getElem? (i := 5) (by decide +kernel)))) (hts (.methodLink RL 114 yX8_init) (inL0 _ (List.mem_of_getElem? (i := 39) (by decide +kernel)))) (hts (.instanceMethod yX8_init) (inL0 _ (List.mem_of_getElem? (i := 40) (by decide +kernel)))) rfl (by decide +kernel) ⟨Nat.le_of_ble_eq_true rfl, Nat.le_of_ble_eq_true rfl⟩) ⟨qK.blind, qK.pre hC hat3 (Nat.le_refl _) rfl⟩ rfl rfl hl.1 rfl (lv_room (Nat.le_of_ble_eq_true rfl)) dL_law_12 ⟨Nat.le_of_ble_eq_true rfl, Nat.le_of_ble_eq_true rfl⟩) hS (fun q h => Nat.le_trans hs2 h) (fun q h => Nat.le_trans hs2 h) (fun H4 locs hq hz4 hk4 hS => ?_)
  obtain ⟨r0, r1, r2, r3, r4, r5, r6, r7, r8, r9, r10, r11, r12, r13, r14, r15, r16, r17, r18, r19, r20, r21, r22, r23, r24, r25, r26, r27, r28, hP4, hD4⟩ := hq
  refine lv_astore_n (lv' := [(2, .ref (H2.size)), (1, .ref (s.heap.size)), (0, .ref b)]) hx hb dL_law_15 rfl hl (by decide) rfl (fun ls hl => ?_)
  refine lv_iconst (v := nI 1) hx hb dL_law_16 (by decide) ?_
  refine q_newa (atype := .long) (ty := .long) (cA0 := G.2 2) hx hb (hts (.arrayClass .long) (inL0 _ (List.mem_of_getElem? (i := 6) (by decide +kernel)))) rfl hC.1 2 rfl (fun C z => by cases z) hS (n := nI 1) (N' := 1) (1, .inr (.inl (fun _ => 0))) (fun cA => (vp_cell_l cA 1 _).trans (congrArg (arrV cA 1) (funext fun _ => rfl))) (nI_pos (by decide)) (nI_clamp (by decide)) (by show 1 * 8 ≤ 536870912; omega) (by show 0 + 1 + 6 + 1 + 29 + 1 ≤ 603072; omega) (by show 0 + 7 + 19 + 36 + 12044 + 1 ≤ 7223402; omega) dL_law_17 (fun H5 hat5 hz5 hk5 hS => ?_)
  refine lv_astore_n (lv' := [(3, .ref (H4.size)), (2, .ref (H2.size)), (1, .ref (s.heap.size)), (0, .ref b)]) hx hb dL_law_19 rfl hl (by decide) rfl (fun ls hl => ?_)
  refine lv_iconst (v := nI 1) hx hb dL_law_20 (by decide) ?_
  refine q_newa (atype := .double) (ty := .double) (cA0 := G.2 5) hx hb (hts (.arrayClass .double) (inL0 _ (List.mem_of_getElem? (i := 7) (by decide +kernel)))) rfl hC.1 5 rfl (fun C z => by cases z) hS (n := nI 1) (N' := 1) (1, .inr (.inr (.inr (.inl (fun _ => 0))))) (fun cA => (vp_cell_d cA 1 _).trans (congrArg (arrV cA 1) (funext fun _ => rfl))) (nI_pos (by decide)) (nI_clamp (by decide)) (by show 1 * 8 ≤ 536870912; omega) (by show 0 + 1 + 6 + 1 + 29 + 1 + 1 ≤ 603072; omega) (by show 0 + 7 + 19 + 36 + 12044 + 1 + 1 ≤ 7223402; omega) dL_law_21 (fun H6 hat6 hz6 hk6 hS => ?_)
  refine lv_astore (lv' := [(4, .ref (H5.size)), (3, .ref (H4.size)), (2, .ref (H2.size)), (1, .ref (s.heap.size)), (0, .ref b)]) hx hb dL_law_23 hl (by decide) rfl (fun ls hl => ?_)
  refine lv_iconst (v := nI 0) hx hb dL_law_25 (by decide) ?_
  refine lv_istore (lv' := [(5, .int (nI 0)), (4, .ref (H5.size)), (3, .ref (H4.size)), (2, .ref (H2.size)), (1, .ref (s.heap.size)), (0, .ref b)]) hx hb dL_law_26 hl (by decide) rfl (fun ls hl => ?_)
  refine va_forget (fun q hq => hS.2.2 q hq) ?_
  have k6 : ∀ q, q < H2.size → H6[q]? = H2[q]? := fun q h => (hk6 q (by omega)).trans ((hk5 q (by omega)).trans ((hk4 q (by omega) (Nat.not_le.mpr h)).trans (hk3 q h)))
  have k64 : ∀ q, q < H4.size → H6[q]? = H4[q]? := fun q h => (hk6 q (by omega)).trans (hk5 q h)
  have hA : qLW G es (fun q => (s.heap.size ≤ q ∧ q < H2.size) ∨ H6.size ≤ q) qs0 (sad0 s.heap.size q0 q1 q2 q3 q4 q5) H6 := qLW_0 (fun k q hq => (hP k q hq).kept (k6 _ (hP k q hq).lt)) ⟨hDs.1, fun k q hq => Or.inl ⟨hDs.2 k q hq, (hP k q hq).lt⟩⟩
  have hB : rW G (fun q => H2.size ≤ q ∧ q < H4.size) rs0 (rbd0 [H2.size, r0, r1, r2, r3, r4, r5, r6, r7, r8, r9, r10, r11, r12, r13, r14, r15, r16, r17, r18, r19, r20, r21, r22, r23, r24, r25, r26, r27, r28]) H6 := rW_0 (fun k q hq => (hP4 k q hq).kept (k64 _ (hP4 k q hq).lt)) ⟨hD4.1, fun k q hq => ⟨hD4.2 k q hq, (hP4 k q hq).lt⟩⟩
  have hD : lD s (fun q => (s.heap.size ≤ q ∧ q < H2.size) ∨ H6.size ≤ q) (fun q => H2.size ≤ q ∧ q < H4.size) H4.size H5.size H6.size := lD_0 (by omega) (by omega) (by omega) (by omega)
  exact l_loop (bd := rbd0 [H2.size, r0, r1, r2, r3, r4, r5, r6, r7, r8, r9, r10, r11, r12, r13, r14, r15, r16, r17, r18, r19, r20, r21, r22, r23, r24, r25, r26, r27, r28]) ⟨hx, hb, hml, hown, hts, hlocks, hst, hX, hbl, hC, hZ0, hzT, hzN, hL, hD⟩ hend 512 0 qs0 rs0 (sad0 s.heap.size q0 q1 q2 q3 q4 q5) H6 ls _ _ (Nat.zero_le _) (by omega) (by omega) (by omega) ⟨zIv_0, zRel_0, rs0_wf, hA, hB, ⟨_, hat5.kept (hk6 _ hat5.lt)⟩, ⟨_, hat6⟩, hS.forget, Nat.le_refl _⟩ (lv_sub hl [5, 4, 3, 2, 1, 0] rfl)
end LQ
