theorem lD_0 {s : State} {h2 zm za zb h6 : Nat} (a : s.heap.size ≤ h2) (b : h2 ≤ zm) (c : zm < za) (d : za < zb) (e : zb < h6) : lD s (fun q => (s.heap.size ≤ q ∧ q < h2) ∨ h6 ≤ q) zm za zb h6 := by
  unfold lD
  refine ⟨?_, ?_, ?_, ?_, ?_⟩
  · intro q h; rcases h with h | h <;> omega
  · omega
  · refine ⟨?_, ?_, ?_⟩ <;> (intro h; rcases h with h | h <;> omega)
  · omega
  · intro q h; exact Or.inr h
section LQ
variable {p : Program} {l : Launch} {e : Env} {s : State} {m : MethodId} {below : List Frame} {meth : Method} {c : Code} {b L : Nat} {xs : Nat → Int32} {G : QG} {es : Nat}
set_option maxHeartbeats 4000000 in
set_option maxRecDepth 100000 in
theorem l_start (hx : p.tables.exec = Jvm.exec) (hb : c.code = cL_law) (hml : c.maxLocals = 16) (hown : s.vm.findClass RL = some m.cls) (hts : ∀ w ∈ wsL_law, w.before #[Value.ref b] s = true) (hlocks : meth.locks = false) (hst : l.stackTraces = false) (hX : va_X b L xs s s.heap) (hbl : b < s.heap.size) (hC : qCX G s) (hZ0 : qSZ es (lF s) s s.heap) (hzT : qStr s) (hzN : qNc s) (hL : L ≤ 260) {Q : State → Prop} (hend : ∀ (H : Heap) (ls : Array Slot), va_S (lF s) s.heap H [] → lv_has ls 16 [(7, .int (nI 1))] → W p l e room_1 s m #[Value.ref b] below meth c H [] 600192 7296936 Q (F0 m 916 ls [])) {ls : Array Slot} (hl : lv_has ls 16 [(0, .ref b)]) : W p l e room_1 s m #[Value.ref b] below meth c s.heap [] 0 0 Q (F0 m 0 ls []) := by
  have hS : va_S (lF s) s.heap s.heap [] := va_S.rf
  refine q_new (own := RL) (C := RX7) (T := TX7) (N := 7) (ci := 10) hx hb hts inlX7 tyX7 tyX7_ok hown (hts (.classLink RL 16 RX7) (inL0 _ (List.mem_of_getElem? (i := 0) (by decide +kernel)))) (hts (.instantiable RX7 7) (inL0 _ (List.mem_of_getElem? (i := 1) (by decide +kernel)))) (hts (.initialized RX7) (inL0 _ (List.mem_of_getElem? (i := 2) (by decide +kernel)))) hC.1 hS rfl [.null, .null, .null, .null, .null, .null, .int (nI 0)] (fun j hj => by match j, hj with | 0, _ => rfl | 1, _ => rfl | 2, _ => rfl | 3, _ => rfl | 4, _ => rfl | 5, _ => rfl | 6, _ => rfl) (by show 0 + 1 ≤ 600192; omega) (by show 0 + 7 ≤ 7296936; omega) dL_law_0 (fun H1 hat hz1 hk1 hS => ?_)
  refine lv_dup hx hb dL_law_3 rfl ?_
  refine q_wn (va_runI (As := []) (rest := [.ref (s.heap.size)]) ⟨hx, hb, hml, hown, hts⟩ (m_initStore l G es (lF s) H1.size s.heap.size (fun q h => Nat.le_trans (by omega) h)) (cwI 0 hts gL_law_X7_init rfl rfl rfl (hts (.initialized RX7) (inL0 _ (List.mem_of_getElem? (i := 2) (by decide +kernel)))) (hts (.methodLink RL 150 yX7_init) (inL0 _ (List.mem_of_getElem? (i := 8) (by decide +kernel)))) (hts (.instanceMethod yX7_init) (inL0 _ (List.mem_of_getElem? (i := 9) (by decide +kernel)))) rfl (by decide +kernel) ⟨Nat.le_of_ble_eq_true rfl, Nat.le_of_ble_eq_true rfl⟩) ⟨qKz.blind, qKz.pre hC hat (Nat.le_refl _) rfl hZ0 hS (fun _ h => h)⟩ rfl rfl hl.1 rfl (lv_room (Nat.le_of_ble_eq_true rfl)) dL_law_4 ⟨Nat.le_of_ble_eq_true rfl, Nat.le_of_ble_eq_true rfl⟩) hS (fun _ h => h) (fun _ h => h) (fun H2 locs hq hz2 hk2 hS => ?_)
  obtain ⟨q0, q1, q2, q3, q4, q5, hP, hDs⟩ := hq
  have hs2 : s.heap.size ≤ H2.size := by omega
  refine lv_astore_n (lv' := [(1, .ref (s.heap.size)), (0, .ref (b))]) hx hb dL_law_7 rfl hl (by decide) rfl (fun ls hl => ?_)
  refine lv_sipush (v := nI 1400) hx hb dL_law_8 (by decide) ?_
  refine q_newa (atype := .int) (ty := .int) (cA0 := G.2 1) hx hb (hts (.arrayClass .int) (inL0 _ (List.mem_of_getElem? (i := 3) (by decide +kernel)))) rfl hC.1 1 rfl (fun C z => by cases z) hS (n := nI 1400) (N' := 1400) (1400, .inl (fun _ => 0)) (fun cA => (vp_cell_i cA 1400 _).trans (congrArg (arrV cA 1400) (funext fun _ => rfl))) (nI_pos (by decide)) (nI_clamp (by decide)) (by show 1400 * 4 ≤ 536870912; omega) (by show 0 + 1 + 6 + 1 ≤ 600192; omega) (by show 0 + 7 + 19 + 1400 ≤ 7296936; omega) dL_law_11 (fun H3 hat3 hz3 hk3 hS => ?_)
  refine lv_astore_n (lv' := [(2, .ref (H2.size)), (1, .ref (s.heap.size)), (0, .ref (b))]) hx hb dL_law_13 rfl hl (by decide) rfl (fun ls hl => ?_)
  refine lv_bipush (v := nI 49) hx hb dL_law_14 (by decide) ?_
  refine q_newa (atype := .int) (ty := .int) (cA0 := G.2 1) hx hb (hts (.arrayClass .int) (inL0 _ (List.mem_of_getElem? (i := 3) (by decide +kernel)))) rfl hC.1 1 rfl (fun C z => by cases z) hS (n := nI 49) (N' := 49) (49, .inl (fun _ => 0)) (fun cA => (vp_cell_i cA 49 _).trans (congrArg (arrV cA 49) (funext fun _ => rfl))) (nI_pos (by decide)) (nI_clamp (by decide)) (by show 49 * 4 ≤ 536870912; omega) (by show 0 + 1 + 6 + 1 + 1 ≤ 600192; omega) (by show 0 + 7 + 19 + 1400 + 49 ≤ 7296936; omega) dL_law_16 (fun H4 hat4 hz4 hk4 hS => ?_)
  refine lv_astore_n (lv' := [(3, .ref (H3.size)), (2, .ref (H2.size)), (1, .ref (s.heap.size)), (0, .ref (b))]) hx hb dL_law_18 rfl hl (by decide) rfl (fun ls hl => ?_)
  refine lv_iconst (v := nI 4) hx hb dL_law_19 (by decide) ?_
  refine q_newa (atype := .int) (ty := .int) (cA0 := G.2 1) hx hb (hts (.arrayClass .int) (inL0 _ (List.mem_of_getElem? (i := 3) (by decide +kernel)))) rfl hC.1 1 rfl (fun C z => by cases z) hS (n := nI 4) (N' := 4) (4, .inl (fun _ => 0)) (fun cA => (vp_cell_i cA 4 _).trans (congrArg (arrV cA 4) (funext fun _ => rfl))) (nI_pos (by decide)) (nI_clamp (by decide)) (by show 4 * 4 ≤ 536870912; omega) (by show 0 + 1 + 6 + 1 + 1 + 1 ≤ 600192; omega) (by show 0 + 7 + 19 + 1400 + 49 + 4 ≤ 7296936; omega) dL_law_20 (fun H5 hat5 hz5 hk5 hS => ?_)
  refine lv_dup hx hb dL_law_22 rfl ?_
  refine lv_iconst (v := nI 0) hx hb dL_law_23 (by decide) ?_
  refine lv_sipush (v := nI 9999) hx hb dL_law_24 (by decide) ?_
  refine q_iast hx hb hC.1 hat5 (by show s.heap.size ≤ H4.size; omega) hS 1 rfl (vp_in_nI (n := 0) (by omega) (by omega)) dL_law_27 (fun H6 locs hat9 hz6 hk6 hS => ?_)
  rw [l_idx (by omega)] at hat9
  have hat5 := hat9
  refine lv_dup hx hb dL_law_28 rfl ?_
  refine lv_iconst (v := nI 1) hx hb dL_law_29 (by decide) ?_
  refine lv_sipush (v := nI 9999) hx hb dL_law_30 (by decide) ?_
  refine q_iast hx hb hC.1 hat5 (by show s.heap.size ≤ H4.size; omega) hS 1 rfl (vp_in_nI (n := 1) (by omega) (by omega)) dL_law_33 (fun H7 locs hat9 hz7 hk7 hS => ?_)
  rw [l_idx (by omega)] at hat9
  have hat5 := hat9
  refine lv_dup hx hb dL_law_34 rfl ?_
  refine lv_iconst (v := nI 2) hx hb dL_law_35 (by decide) ?_
  refine lv_sipush (v := nI 9999) hx hb dL_law_36 (by decide) ?_
  refine q_iast hx hb hC.1 hat5 (by show s.heap.size ≤ H4.size; omega) hS 1 rfl (vp_in_nI (n := 2) (by omega) (by omega)) dL_law_39 (fun H8 locs hat9 hz8 hk8 hS => ?_)
  rw [l_idx (by omega)] at hat9
  have hat5 := hat9
  refine lv_dup hx hb dL_law_40 rfl ?_
  refine lv_iconst (v := nI 3) hx hb dL_law_41 (by decide) ?_
  refine lv_sipush (v := nI 9999) hx hb dL_law_42 (by decide) ?_
  refine q_iast hx hb hC.1 hat5 (by show s.heap.size ≤ H4.size; omega) hS 1 rfl (vp_in_nI (n := 3) (by omega) (by omega)) dL_law_45 (fun H9 locs hat9 hz9 hk9 hS => ?_)
  rw [l_idx (by omega)] at hat9
  have hat5 := hat9
  refine lv_astore (lv' := [(4, .ref (H4.size)), (3, .ref (H3.size)), (2, .ref (H2.size)), (1, .ref (s.heap.size)), (0, .ref (b))]) hx hb dL_law_46 hl (by decide) rfl (fun ls hl => ?_)
  refine lv_iconst (v := nI 0) hx hb dL_law_48 (by decide) ?_
  refine lv_istore (lv' := [(5, .int (nI 0)), (4, .ref (H4.size)), (3, .ref (H3.size)), (2, .ref (H2.size)), (1, .ref (s.heap.size)), (0, .ref (b))]) hx hb dL_law_49 hl (by decide) rfl (fun ls hl => ?_)
  refine lv_iconst (v := nI 0) hx hb dL_law_51 (by decide) ?_
  refine lv_istore (lv' := [(6, .int (nI 0)), (5, .int (nI 0)), (4, .ref (H4.size)), (3, .ref (H3.size)), (2, .ref (H2.size)), (1, .ref (s.heap.size)), (0, .ref (b))]) hx hb dL_law_52 hl (by decide) rfl (fun ls hl => ?_)
  refine lv_iconst (v := nI 1) hx hb dL_law_54 (by decide) ?_
  refine lv_istore (lv' := [(7, .int (nI 1)), (6, .int (nI 0)), (5, .int (nI 0)), (4, .ref (H4.size)), (3, .ref (H3.size)), (2, .ref (H2.size)), (1, .ref (s.heap.size)), (0, .ref (b))]) hx hb dL_law_55 hl (by decide) rfl (fun ls hl => ?_)
  refine lv_iconst (v := nI 0) hx hb dL_law_57 (by decide) ?_
  refine lv_istore (lv' := [(8, .int (nI 0)), (7, .int (nI 1)), (6, .int (nI 0)), (5, .int (nI 0)), (4, .ref (H4.size)), (3, .ref (H3.size)), (2, .ref (H2.size)), (1, .ref (s.heap.size)), (0, .ref (b))]) hx hb dL_law_58 hl (by decide) rfl (fun ls hl => ?_)
  refine va_forget (fun q hq => hS.2.2 q hq) ?_
  have k94 : ∀ q, q < H4.size → H9[q]? = H4[q]? := fun q h => (hk9 q (by omega)).trans ((hk8 q (by omega)).trans ((hk7 q (by omega)).trans ((hk6 q (by omega)).trans (hk5 q h))))
  have k93 : ∀ q, q < H3.size → H9[q]? = H3[q]? := fun q h => (k94 q (by omega)).trans (hk4 q h)
  have k92 : ∀ q, q < H2.size → H9[q]? = H2[q]? := fun q h => (k93 q (by omega)).trans (hk3 q h)
  have hA : qLW G es (fun q => (s.heap.size ≤ q ∧ q < H2.size) ∨ H9.size ≤ q) qs0 (sad0 s.heap.size q0 q1 q2 q3 q4 q5) H9 := qLW_0 (fun k q hq => (hP k q hq).kept (k92 _ (hP k q hq).lt)) ⟨hDs.1, fun k q hq => Or.inl ⟨hDs.2 k q hq, (hP k q hq).lt⟩⟩
  have hD : lD s (fun q => (s.heap.size ≤ q ∧ q < H2.size) ∨ H9.size ≤ q) H2.size H3.size H4.size H9.size := lD_0 (by omega) (by omega) (by omega) (by omega) (by omega)
  exact l_loop ⟨hx, hb, hml, hown, hts, hlocks, hst, hX, hbl, hC, hZ0, hzT, hzN, hL, hD⟩ hend 60 0 qs0 (sad0 s.heap.size q0 q1 q2 q3 q4 q5) _ _ _ H9 ls _ _ rfl (by omega) (by omega) ⟨zIv_0, jI_0, hA, fun l9 h9 => absurd h9 (Nat.not_lt_zero _), fun k9 h9 => absurd h9 (Nat.not_lt_zero _), fun i9 h9 => (congrFun q_bud0 i9).symm, hat3.kept (k93 _ hat3.lt), hat4.kept (k94 _ hat4.lt), hat5, hS.forget, Nat.le_refl _, by decide, by decide⟩ (lv_sub hl [8, 7, 6, 5, 4, 3, 2, 1, 0] rfl)
end LQ
