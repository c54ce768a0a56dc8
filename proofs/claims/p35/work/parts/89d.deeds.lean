section CB
variable {p : Program} {l : Launch} {e : Env} {s : State} {m : MethodId} {below : List Frame} {meth : Method} {c : Code} {b L : Nat} {xs : Nat → Int32} {G : QG} {es zm za zb hz : Nat} {A : Nat → Prop}
set_option maxHeartbeats 4000000 in
set_option maxRecDepth 100000 in
theorem c_bud (cx : lC p l s m meth c b L xs G es zm za zb hz A) {k : Nat} (hk : k < 60) {σ ad : QSt} {mf af bf : Nat → Int32} {H : Heap} {ls : Array Slot} (hI : lS G es A zm za zb hz s k σ ad mf af bf H) {j s0 : Nat} (hj7 : j = 7) (hs0 : s0 < 2) (hl : lv_has ls 16 [(0, .ref (b)), (1, .ref (ad 0 0)), (2, .ref (zm)), (3, .ref (za)), (4, .ref (zb)), (5, .int (nI (σ 0 0))), (6, .int (nI (σ 0 2))), (7, .int (nI 1)), (8, .int (nI k)), (9, .int (nI (12 * k))), (10, .int (nI j)), (11, .int (nI s0))]) {cells slots : Nat} {Q : State → Prop} (hroom : cells + 40 ≤ 600192 ∧ slots + 15000 ≤ 7296936)
    (next : ∀ (τ ad2 : QSt) (mg ag bg : Nat → Int32) (H2 : Heap) (ls2 : Array Slot), lS G es A zm za zb hz s (k + 1) τ ad2 mg ag bg H2 → lv_has ls2 16 [(0, .ref (b)), (1, .ref (ad2 0 0)), (2, .ref (zm)), (3, .ref (za)), (4, .ref (zb)), (5, .int (nI (τ 0 0))), (6, .int (nI (τ 0 2))), (7, .int (nI 1)), (8, .int (nI k)), (10, .int (nI j))] → W p l e room_1 s m #[Value.ref b] below meth c H2 [] (cells + 40) (slots + 15000) Q (F0 m 836 ls2 [])) : W p l e room_1 s m #[Value.ref b] below meth c H [] cells slots Q (F0 m 453 ls []) := by
  obtain ⟨hx, hb, hml, hown, hts, hlocks, hst, hX, hbl, hC, hZ0, hzT, hzN, hL, hD⟩ := cx
  obtain ⟨hv, hj, hW, hM, hAr, hBu, hat_m, hat_a, hat_b, hS, hhz, hk0, hk1⟩ := hI
  have hF := hv.1.wf
  have hB := hF.1
  have hn := hF.n
  refine lv_aload hx hb dL_law_453 (lv_at hl 4 rfl) ?_
  refine lv_iload hx hb dL_law_455 (lv_at hl 11 rfl) ?_
  refine lv_aload_n hx hb dL_law_457 rfl (lv_at hl 0 rfl) ?_
  refine lv_iload hx hb dL_law_458 (lv_at hl 9 rfl) ?_
  refine lv_iconst (v := nI 2) hx hb dL_law_460 (by decide) ?_
  refine lv_iadd hx hb dL_law_461 ?_
  refine q_ti (nI_add (12 * k) 2) ?_
  refine lv_sipush (v := nI 400) hx hb dL_law_462 (by decide) ?_
  refine q_vE (va_runS (As := [.ref (b), .int (nI ((12 * k) + 2)), .int (nI 400)]) (rest := [.int (nI s0), .ref (zb)]) ⟨hx, hb, hml, hown, hts⟩ (k_pick l b L xs (12 * k + 2) (400) hL (by omega) (by decide) (by decide)) (va_cwS 3 hts gL_law_L_pick rfl rfl rfl (by decide +kernel) ⟨Nat.le_of_ble_eq_true rfl, Nat.le_of_ble_eq_true rfl⟩) ⟨qXs.blind, qXs.pre (hX.kept (hS.2.1 b hbl (Nat.not_le.mpr hbl))) (Nat.lt_of_lt_of_le hbl hS.1)⟩ rfl rfl hl.1 rfl (lv_room (Nat.le_of_ble_eq_true rfl)) dL_law_465 ⟨by show cells ≤ 600192; omega, by show slots ≤ 7296936; omega⟩) hS (fun _ h => h.elim) (fun x9 locs hx9 hS => ?_)
  obtain ⟨b1, h_b1, rfl⟩ := hx9
  refine q_iast hx hb hC.1 hat_b hD.2.1.2.2 hS 1 rfl (vp_in_nI (n := s0) (by omega) (by omega)) dL_law_468 (fun H1 locs hat9 hsz hoq hS => ?_)
  rw [l_idx (by omega)] at hat9
  obtain ⟨g0, e_g0⟩ : ∃ g9, g9 = upd bf s0 (nI b1) := ⟨_, rfl⟩
  rw [← e_g0] at hat9
  have hat_m := hat_m.kept (hoq _ (by have := hD.2.2.2.1; omega))
  have hat_a := hat_a.kept (hoq _ (by have := hD.2.2.2.1; omega))
  have hW := hW.out hD.2.2.1.2.2 hoq
  have hhz : hz ≤ _ := Nat.le_trans hhz (Nat.le_of_eq hsz.symm)
  have hat_b := hat9
  have vn_g0 : g0 s0 = nI b1 := by rw [e_g0, pk_us]
  refine lv_aload_n hx hb dL_law_469 rfl (lv_at hl 1 rfl) ?_
  refine lv_iconst (v := nI 0) hx hb dL_law_470 (by decide) ?_
  refine lv_iload hx hb dL_law_471 (lv_at hl 11 rfl) ?_
  refine lv_aload hx hb dL_law_473 (lv_at hl 4 rfl) ?_
  refine lv_iload hx hb dL_law_475 (lv_at hl 11 rfl) ?_
  refine r_iald hx hb hC.1 hat_b 1 rfl (i := s0) (by omega) (by decide) (v := nI b1) vn_g0 dL_law_477 ?_
  have hw9 : qWF (qup σ 48 s0 b1) := hF.bud s0 b1 (by omega)
  have h200 := (qfLs_ok s0 200 _ hw9).2.2
  refine q_wv (vx_runSW (As := [.ref (ad 0 0), .int (nI 0), .int (nI s0), .int (nI b1)]) (rest := []) ⟨hx, hb, hml, hown, hts⟩ (d_setBudget l G es A σ ad hF s0 b1 (by omega) (by omega)) (vx_cwSW 4 hts gL_law_L_deed rfl rfl rfl (by decide +kernel) ⟨Nat.le_of_ble_eq_true rfl, Nat.le_of_ble_eq_true rfl⟩) ⟨qW.blind, qW.pre hC hW hZ0 hS hD.a (hD.up hhz)⟩ rfl rfl hl.1 rfl (lv_room (Nat.le_of_ble_eq_true rfl)) dL_law_478 ⟨by show cells + 0 ≤ 600192; omega, by show slots + 0 ≤ 7296936; omega⟩) hS hD.a hD.a (fun H2 locs hP9 hz1 hk hS => ?_)
  have hW := hP9
  have hhz := Nat.le_trans hhz hz1
  have hat_m := hat_m.kept (hk _ hat_m.lt hD.2.2.1.1)
  have hat_a := hat_a.kept (hk _ hat_a.lt hD.2.2.1.2.1)
  have hat_b := hat_b.kept (hk _ hat_b.lt hD.2.2.1.2.2)
  obtain ⟨⟨t1, t2, t3, t4, t5⟩, t6, t7⟩ := jBud hv hj (s0 := s0) (b0 := b1) (by omega) (by omega)
  generalize (qfLs (qup σ 48 s0 b1) s0 200).1 = τ at hW t1 t2 t3 t4 t5 t6 t7
  obtain ⟨v9, hv9⟩ : ∃ v9, v9 = (qfLs (qup σ 48 s0 b1) s0 200).2 := ⟨_, rfl⟩
  rw [← hv9] at h200
  refine q_ti (y := nI v9) (by rw [hv9]) ?_
  refine q_lt0 (tgt := 488) hx hb (by omega) dL_law_481 (by decide) (fun gq1 => gq1.elim) (fun gq1 => ?_)
  refine lv_iconst (v := nI 1) hx hb dL_law_484 (by decide) ?_
  refine lv_goto (tgt := 489) hx hb dL_law_485 (by decide) ?_
  refine lv_istore (lv' := [(7, .int (nI 1)), (0, .ref (b)), (1, .ref (ad 0 0)), (2, .ref (zm)), (3, .ref (za)), (4, .ref (zb)), (5, .int (nI (σ 0 0))), (6, .int (nI (σ 0 2))), (8, .int (nI k)), (9, .int (nI (12 * k))), (10, .int (nI j)), (11, .int (nI s0))]) hx hb dL_law_489 hl (by decide) rfl (fun ls hl => ?_)
  refine lv_goto (tgt := 836) hx hb dL_law_491 (by decide) ?_
  have hl : lv_has ls 16 [(7, .int (nI 1)), (0, .ref (b)), (1, .ref (ad 0 0)), (2, .ref (zm)), (3, .ref (za)), (4, .ref (zb)), (5, .int (nI (τ 0 0))), (6, .int (nI (τ 0 2))), (8, .int (nI k)), (9, .int (nI (12 * k))), (10, .int (nI j)), (11, .int (nI s0))] := by rw [t4, t5]; exact hl
  refine va_forget (fun q9 h9 => hS.2.2 q9 h9) ?_
  refine W.widen (k := cells + 40) (n := slots + 15000) (by omega) (by omega) ?_
  exact next τ ad mf af g0 _ ls ⟨t1, t2, hW, jM_ext hM t3 t4 (fun _ _ => rfl), jAr_ext hAr t3 t5 (fun _ _ => rfl), (fun i9 h9 => by rw [t7]; by_cases c9 : i9 = s0; exact (by rw [if_pos c9, c9]; exact vn_g0); exact (by rw [if_neg c9, e_g0, pk_un c9]; exact hBu i9 h9)), hat_m, hat_a, hat_b, hS.forget, hhz, by omega, by omega⟩ (lv_sub hl [1, 2, 3, 4, 5, 6, 7, 0, 8, 10] rfl)
set_option maxHeartbeats 4000000 in
set_option maxRecDepth 100000 in
theorem c_arc (cx : lC p l s m meth c b L xs G es zm za zb hz A) {k : Nat} (hk : k < 60) {σ ad : QSt} {mf af bf : Nat → Int32} {H : Heap} {ls : Array Slot} (hI : lS G es A zm za zb hz s k σ ad mf af bf H) {j s0 : Nat} (hj8 : j = 8) (hln : 0 < σ 0 0) (hs0 : s0 < 2) (hl : lv_has ls 16 [(0, .ref (b)), (1, .ref (ad 0 0)), (2, .ref (zm)), (3, .ref (za)), (4, .ref (zb)), (5, .int (nI (σ 0 0))), (6, .int (nI (σ 0 2))), (7, .int (nI 1)), (8, .int (nI k)), (9, .int (nI (12 * k))), (10, .int (nI j)), (11, .int (nI s0))]) {cells slots : Nat} {Q : State → Prop} (hroom : cells + 40 ≤ 600192 ∧ slots + 15000 ≤ 7296936)
    (next : ∀ (τ ad2 : QSt) (mg ag bg : Nat → Int32) (H2 : Heap) (ls2 : Array Slot), lS G es A zm za zb hz s (k + 1) τ ad2 mg ag bg H2 → lv_has ls2 16 [(0, .ref (b)), (1, .ref (ad2 0 0)), (2, .ref (zm)), (3, .ref (za)), (4, .ref (zb)), (5, .int (nI (τ 0 0))), (6, .int (nI (τ 0 2))), (7, .int (nI 1)), (8, .int (nI k)), (10, .int (nI j))] → W p l e room_1 s m #[Value.ref b] below meth c H2 [] (cells + 40) (slots + 15000) Q (F0 m 836 ls2 [])) : W p l e room_1 s m #[Value.ref b] below meth c H [] cells slots Q (F0 m 506 ls []) := by
  obtain ⟨hx, hb, hml, hown, hts, hlocks, hst, hX, hbl, hC, hZ0, hzT, hzN, hL, hD⟩ := cx
  obtain ⟨hv, hj, hW, hM, hAr, hBu, hat_m, hat_a, hat_b, hS, hhz, hk0, hk1⟩ := hI
  have hF := hv.1.wf
  have hB := hF.1
  have hn := hF.n
  refine lv_aload_n hx hb dL_law_506 rfl (lv_at hl 0 rfl) ?_
  refine lv_iload hx hb dL_law_507 (lv_at hl 9 rfl) ?_
  refine lv_iconst (v := nI 2) hx hb dL_law_509 (by decide) ?_
  refine lv_iadd hx hb dL_law_510 ?_
  refine q_ti (nI_add (12 * k) 2) ?_
  refine lv_iload hx hb dL_law_511 (lv_at hl 5 rfl) ?_
  refine q_vE (va_runS (As := [.ref (b), .int (nI ((12 * k) + 2)), .int (nI (σ 0 0))]) (rest := []) ⟨hx, hb, hml, hown, hts⟩ (k_pick l b L xs (12 * k + 2) (σ 0 0) hL (by omega) hln (by omega)) (va_cwS 3 hts gL_law_L_pick rfl rfl rfl (by decide +kernel) ⟨Nat.le_of_ble_eq_true rfl, Nat.le_of_ble_eq_true rfl⟩) ⟨qXs.blind, qXs.pre (hX.kept (hS.2.1 b hbl (Nat.not_le.mpr hbl))) (Nat.lt_of_lt_of_le hbl hS.1)⟩ rfl rfl hl.1 rfl (lv_room (Nat.le_of_ble_eq_true rfl)) dL_law_513 ⟨by show cells ≤ 600192; omega, by show slots ≤ 7296936; omega⟩) hS (fun _ h => h.elim) (fun x9 locs hx9 hS => ?_)
  obtain ⟨it, h_it, rfl⟩ := hx9
  refine lv_istore (lv' := [(12, .int (nI it)), (0, .ref (b)), (1, .ref (ad 0 0)), (2, .ref (zm)), (3, .ref (za)), (4, .ref (zb)), (5, .int (nI (σ 0 0))), (6, .int (nI (σ 0 2))), (7, .int (nI 1)), (8, .int (nI k)), (9, .int (nI (12 * k))), (10, .int (nI j)), (11, .int (nI s0))]) hx hb dL_law_516 hl (by decide) rfl (fun ls hl => ?_)
  refine lv_aload_n hx hb dL_law_518 rfl (lv_at hl 2 rfl) ?_
  refine lv_iconst (v := nI 0) hx hb dL_law_519 (by decide) ?_
  refine lv_iload hx hb dL_law_520 (lv_at hl 0 rfl) ?_
  refine lv_iconst (v := nI 0) hx hb dL_law_522 (by decide) ?_
  refine q_v (vx_runSW (As := [.ref (ad 0 0), .int (nI 0), .int (nI it), .int (nI 0)]) (rest := []) ⟨hx, hb, hml, hown, hts⟩ (b_stateOf l G es A σ ad hF it h_it (nI 0)) (vx_cwSW 4 hts gL_law_L_ask rfl rfl rfl (by decide +kernel) ⟨Nat.le_of_ble_eq_true rfl, Nat.le_of_ble_eq_true rfl⟩) ⟨qR.blind, qR.pre hC hW⟩ rfl rfl hl.1 rfl (lv_room (Nat.le_of_ble_eq_true rfl)) dL_law_523 ⟨by show cells ≤ 600192; omega, by show slots ≤ 7296936; omega⟩) hS (fun _ h => h.elim) (fun locs hS => ?_)
  refine lv_istore (lv' := [(13, .int (nI (σ 69 it))), (12, .int (nI it)), (0, .ref (b)), (1, .ref (ad 0 0)), (2, .ref (zm)), (3, .ref (za)), (4, .ref (zb)), (5, .int (nI (σ 0 0))), (6, .int (nI (σ 0 2))), (7, .int (nI 1)), (8, .int (nI k)), (9, .int (nI (12 * k))), (10, .int (nI j)), (11, .int (nI s0))]) hx hb dL_law_526 hl (by decide) rfl (fun ls hl => ?_)
  refine lv_aload_n hx hb dL_law_528 rfl (lv_at hl 3 rfl) ?_
  refine lv_iconst (v := nI 1) hx hb dL_law_529 (by decide) ?_
  refine lv_iload hx hb dL_law_530 (lv_at hl 1 rfl) ?_
  refine lv_iconst (v := nI 0) hx hb dL_law_532 (by decide) ?_
  by_cases h107 : σ 69 it = 107
  · skip
    obtain ⟨t1, t2, t3, t4, t5⟩ := jArc hv hj h_it h107
    have hs2 := hj.2.2.2 it h_it
    refine q_wv (vx_runSW (As := [.ref (ad 0 0), .int (nI 1), .int (nI it), .int (nI 0)]) (rest := []) ⟨hx, hb, hml, hown, hts⟩ (d_archive l G es A σ ad hF it h_it h107 (nI 0)) (vx_cwSW 4 hts gL_law_L_deed rfl rfl rfl (by decide +kernel) ⟨Nat.le_of_ble_eq_true rfl, Nat.le_of_ble_eq_true rfl⟩) ⟨qW.blind, qW.pre hC hW hZ0 hS hD.a (hD.up hhz)⟩ rfl rfl hl.1 rfl (lv_room (Nat.le_of_ble_eq_true rfl)) dL_law_533 ⟨by show cells + 0 ≤ 600192; omega, by show slots + 0 ≤ 7296936; omega⟩) hS hD.a hD.a (fun H1 locs hP9 hz1 hk hS => ?_)
    have hW := hP9
    have hhz := Nat.le_trans hhz hz1
    have hat_m := hat_m.kept (hk _ hat_m.lt hD.2.2.1.1)
    have hat_a := hat_a.kept (hk _ hat_a.lt hD.2.2.1.2.1)
    have hat_b := hat_b.kept (hk _ hat_b.lt hD.2.2.1.2.2)
    have t6 : qup σ 69 it 97 1 0 = σ 1 0 := qup_k (by decide)
    have t7 : ∀ s9, qup σ 69 it 97 48 s9 = σ 48 s9 := fun s9 => qup_k (by decide)
    have t8 : qup σ 69 it 97 69 it = 97 := qup_s _ _ _ _
    generalize qup σ 69 it 97 = τ at hW t1 t2 t3 t4 t5 t6 t7 t8 ⊢
    have hτF := t1.1.wf
    refine lv_iload hx hb dL_law_536 (lv_at hl 0 rfl) ?_
    refine lv_bipush (v := nI 107) hx hb dL_law_538 (by decide) ?_
    refine q_ne (tgt := 560) hx hb (q31 (hB _ _)) (by decide) dL_law_540 (by decide) (fun gq1 => (by omega)) (fun gq1 => ?_)
    refine lv_aload_n hx hb dL_law_543 rfl (lv_at hl 3 rfl) ?_
    refine lv_bipush (v := nI 6) hx hb dL_law_544 (by decide) ?_
    refine lv_aload_n hx hb dL_law_546 rfl (lv_at hl 4 rfl) ?_
    refine lv_bipush (v := nI 7) hx hb dL_law_547 (by decide) ?_
    refine lv_iload hx hb dL_law_549 (lv_at hl 1 rfl) ?_
    refine lv_imul hx hb dL_law_551 ?_
    refine q_ti (pk_mul 7 it) ?_
    refine r_iald hx hb hC.1 hat_m 1 rfl (i := (7 * it)) (by omega) (by decide) (v := nI (σ 64 it)) (hM it h_it).1 dL_law_552 ?_
    refine lv_iconst (v := nI 0) hx hb dL_law_553 (by decide) ?_
    refine q_v (vx_runSW (As := [.ref (ad 0 0), .int (nI 6), .int (nI (σ 64 it)), .int (nI 0)]) (rest := [.int (nI (qkept τ (σ 64 it)))]) ⟨hx, hb, hml, hown, hts⟩ (b_kept l G es A τ ad hτF (σ 64 it) (by omega) (nI 0)) (vx_cwSW 4 hts gL_law_L_ask rfl rfl rfl (by decide +kernel) ⟨Nat.le_of_ble_eq_true rfl, Nat.le_of_ble_eq_true rfl⟩) ⟨qR.blind, qR.pre hC hW⟩ rfl rfl hl.1 rfl (lv_room (Nat.le_of_ble_eq_true rfl)) dL_law_554 ⟨by show cells + 0 ≤ 600192; omega, by show slots + 0 ≤ 7296936; omega⟩) hS (fun _ h => h.elim) (fun locs hS => ?_)
    refine lv_goto (tgt := 563) hx hb dL_law_557 (by decide) ?_
    refine q_neP (P := True) (tgt := 590) hx hb (iff_of_true rfl trivial) dL_law_563 (by decide) (fun c1 => absurd trivial c1) (fun c1 => ?_)
    refine lv_iload hx hb dL_law_566 (lv_at hl 0 rfl) ?_
    refine lv_bipush (v := nI 107) hx hb dL_law_568 (by decide) ?_
    refine q_ne (tgt := 586) hx hb (q31 (hB _ _)) (by decide) dL_law_570 (by decide) (fun gq2 => (by omega)) (fun gq2 => ?_)
    refine lv_aload_n hx hb dL_law_573 rfl (lv_at hl 3 rfl) ?_
    refine lv_iconst (v := nI 0) hx hb dL_law_574 (by decide) ?_
    refine lv_iload hx hb dL_law_575 (lv_at hl 1 rfl) ?_
    refine lv_iconst (v := nI 0) hx hb dL_law_577 (by decide) ?_
    refine q_v (vx_runSW (As := [.ref (ad 0 0), .int (nI 0), .int (nI it), .int (nI 0)]) (rest := []) ⟨hx, hb, hml, hown, hts⟩ (b_stateOf l G es A τ ad hτF it (by omega) (nI 0)) (vx_cwSW 4 hts gL_law_L_ask rfl rfl rfl (by decide +kernel) ⟨Nat.le_of_ble_eq_true rfl, Nat.le_of_ble_eq_true rfl⟩) ⟨qR.blind, qR.pre hC hW⟩ rfl rfl hl.1 rfl (lv_room (Nat.le_of_ble_eq_true rfl)) dL_law_578 ⟨by show cells + 0 ≤ 600192; omega, by show slots + 0 ≤ 7296936; omega⟩) hS (fun _ h => h.elim) (fun locs hS => ?_)
    refine lv_bipush (v := nI 97) hx hb dL_law_581 (by decide) ?_
    refine q_neP (P := True) (tgt := 590) hx hb (iff_of_true (by rw [t8]) trivial) dL_law_583 (by decide) (fun c1 => absurd trivial c1) (fun c1 => ?_)
    refine lv_iconst (v := nI 1) hx hb dL_law_586 (by decide) ?_
    refine lv_goto (tgt := 591) hx hb dL_law_587 (by decide) ?_
    refine lv_istore (lv' := [(7, .int (nI 1)), (13, .int (nI (σ 69 it))), (12, .int (nI it)), (0, .ref (b)), (1, .ref (ad 0 0)), (2, .ref (zm)), (3, .ref (za)), (4, .ref (zb)), (5, .int (nI (σ 0 0))), (6, .int (nI (σ 0 2))), (8, .int (nI k)), (9, .int (nI (12 * k))), (10, .int (nI j)), (11, .int (nI s0))]) hx hb dL_law_591 hl (by decide) rfl (fun ls hl => ?_)
    refine lv_goto (tgt := 836) hx hb dL_law_593 (by decide) ?_
    have hl : lv_has ls 16 [(7, .int (nI 1)), (13, .int (nI (σ 69 it))), (12, .int (nI it)), (0, .ref (b)), (1, .ref (ad 0 0)), (2, .ref (zm)), (3, .ref (za)), (4, .ref (zb)), (5, .int (nI (τ 0 0))), (6, .int (nI (τ 0 2))), (8, .int (nI k)), (9, .int (nI (12 * k))), (10, .int (nI j)), (11, .int (nI s0))] := by rw [t4, t5]; exact hl
    refine va_forget (fun q9 h9 => hS.2.2 q9 h9) ?_
    refine W.widen (k := cells + 40) (n := slots + 15000) (by omega) (by omega) ?_
    exact next τ ad mf af bf _ ls ⟨t1, t2, hW, jM_ext hM t3 t4 (fun _ _ => rfl), jAr_ext hAr t3 t5 (fun _ _ => rfl), (fun i9 h9 => by rw [t7]; exact hBu i9 h9), hat_m, hat_a, hat_b, hS.forget, hhz, by omega, by omega⟩ (lv_sub hl [3, 4, 5, 6, 7, 8, 9, 0, 10, 12] rfl)
  · skip
    refine q_ask (vx_runSW (As := [.ref (ad 0 0), .int (nI 1), .int (nI it), .int (nI 0)]) (rest := []) ⟨hx, hb, hml, hown, hts⟩ (dx_archive2 l hst G es A σ ad hF it h_it h107 (nI 0)) (vx_cwSW 4 hts gL_law_L_deed rfl rfl rfl (by decide +kernel) ⟨Nat.le_of_ble_eq_true rfl, Nat.le_of_ble_eq_true rfl⟩) ⟨qAk.blind, qAk.pre hC hW (hD.z hZ0 hS) (hD.up hhz) hzT hzN⟩ rfl rfl hl.1 rfl (lv_room (Nat.le_of_ble_eq_true rfl)) dL_law_533 ⟨by show cells + 1 ≤ 600192; omega, by show slots + 6 ≤ 7296936; omega⟩) hS hD.a (fun H2 locs hz1 hk hS => ?_)
    have hW := hW.same hk
    have hhz := Nat.le_trans hhz hz1
    have hat_m := hat_m.kept (hk _ hat_m.lt)
    have hat_a := hat_a.kept (hk _ hat_a.lt)
    have hat_b := hat_b.kept (hk _ hat_b.lt)
    refine lv_iload hx hb dL_law_536 (lv_at hl 0 rfl) ?_
    refine lv_bipush (v := nI 107) hx hb dL_law_538 (by decide) ?_
    refine q_ne (tgt := 560) hx hb (q31 (hB _ _)) (by decide) dL_law_540 (by decide) (fun gq3 => ?_) (fun gq3 => (by omega))
    refine lv_sipush (v := -2003) hx hb dL_law_560 (by decide) ?_
    refine q_neP (P := True) (tgt := 590) hx hb (iff_of_true rfl trivial) dL_law_563 (by decide) (fun c1 => absurd trivial c1) (fun c1 => ?_)
    refine lv_iload hx hb dL_law_566 (lv_at hl 0 rfl) ?_
    refine lv_bipush (v := nI 107) hx hb dL_law_568 (by decide) ?_
    refine q_ne (tgt := 586) hx hb (q31 (hB _ _)) (by decide) dL_law_570 (by decide) (fun gq4 => ?_) (fun gq4 => (by omega))
    refine lv_iconst (v := nI 1) hx hb dL_law_586 (by decide) ?_
    refine lv_goto (tgt := 591) hx hb dL_law_587 (by decide) ?_
    refine lv_istore (lv' := [(7, .int (nI 1)), (13, .int (nI (σ 69 it))), (12, .int (nI it)), (0, .ref (b)), (1, .ref (ad 0 0)), (2, .ref (zm)), (3, .ref (za)), (4, .ref (zb)), (5, .int (nI (σ 0 0))), (6, .int (nI (σ 0 2))), (8, .int (nI k)), (9, .int (nI (12 * k))), (10, .int (nI j)), (11, .int (nI s0))]) hx hb dL_law_591 hl (by decide) rfl (fun ls hl => ?_)
    refine lv_goto (tgt := 836) hx hb dL_law_593 (by decide) ?_
    refine va_forget (fun q9 h9 => hS.2.2 q9 h9) ?_
    refine W.widen (k := cells + 40) (n := slots + 15000) (by omega) (by omega) ?_
    exact next σ ad mf af bf _ ls ⟨hv, hj, hW, hM, hAr, hBu, hat_m, hat_a, hat_b, hS.forget, hhz, by omega, by omega⟩ (lv_sub hl [3, 4, 5, 6, 7, 8, 9, 0, 10, 12] rfl)
set_option maxHeartbeats 4000000 in
set_option maxRecDepth 100000 in
theorem c_rls (cx : lC p l s m meth c b L xs G es zm za zb hz A) {k : Nat} (hk : k < 60) {σ ad : QSt} {mf af bf : Nat → Int32} {H : Heap} {ls : Array Slot} (hI : lS G es A zm za zb hz s k σ ad mf af bf H) {j s0 : Nat} (hj9 : j = 9) (hfn : 0 < σ 0 3) (hs0 : s0 < 2) (hl : lv_has ls 16 [(0, .ref (b)), (1, .ref (ad 0 0)), (2, .ref (zm)), (3, .ref (za)), (4, .ref (zb)), (5, .int (nI (σ 0 0))), (6, .int (nI (σ 0 2))), (7, .int (nI 1)), (8, .int (nI k)), (9, .int (nI (12 * k))), (10, .int (nI j)), (11, .int (nI s0))]) {cells slots : Nat} {Q : State → Prop} (hroom : cells + 40 ≤ 600192 ∧ slots + 15000 ≤ 7296936)
    (next : ∀ (τ ad2 : QSt) (mg ag bg : Nat → Int32) (H2 : Heap) (ls2 : Array Slot), lS G es A zm za zb hz s (k + 1) τ ad2 mg ag bg H2 → lv_has ls2 16 [(0, .ref (b)), (1, .ref (ad2 0 0)), (2, .ref (zm)), (3, .ref (za)), (4, .ref (zb)), (5, .int (nI (τ 0 0))), (6, .int (nI (τ 0 2))), (7, .int (nI 1)), (8, .int (nI k)), (10, .int (nI j))] → W p l e room_1 s m #[Value.ref b] below meth c H2 [] (cells + 40) (slots + 15000) Q (F0 m 836 ls2 [])) : W p l e room_1 s m #[Value.ref b] below meth c H [] cells slots Q (F0 m 610 ls []) := by
  obtain ⟨hx, hb, hml, hown, hts, hlocks, hst, hX, hbl, hC, hZ0, hzT, hzN, hL, hD⟩ := cx
  obtain ⟨hv, hj, hW, hM, hAr, hBu, hat_m, hat_a, hat_b, hS, hhz, hk0, hk1⟩ := hI
  have hF := hv.1.wf
  have hB := hF.1
  have hn := hF.n
  refine lv_aload_n hx hb dL_law_610 rfl (lv_at hl 0 rfl) ?_
  refine lv_iload hx hb dL_law_611 (lv_at hl 9 rfl) ?_
  refine lv_iconst (v := nI 2) hx hb dL_law_613 (by decide) ?_
  refine lv_iadd hx hb dL_law_614 ?_
  refine q_ti (nI_add (12 * k) 2) ?_
  refine lv_aload_n hx hb dL_law_615 rfl (lv_at hl 1 rfl) ?_
  refine q_v (va_runV (As := []) (rest := [.int (nI ((12 * k) + 2)), .ref (b)]) ⟨hx, hb, hml, hown, hts⟩ (m_firings l G es A σ ad hF) (cwV 0 hts gL_law_X7_firings rfl rfl rfl (by decide +kernel) ⟨Nat.le_of_ble_eq_true rfl, Nat.le_of_ble_eq_true rfl⟩) ⟨qR.blind, qrecv hC (hW.to qLV0) rfl, qR.pre hC hW⟩ rfl rfl hl.1 rfl (lv_room (Nat.le_of_ble_eq_true rfl)) dL_law_616 ⟨by show cells ≤ 600192; omega, by show slots ≤ 7296936; omega⟩) hS (fun _ h => h.elim) (fun locs hS => ?_)
  refine q_vE (va_runS (As := [.ref (b), .int (nI ((12 * k) + 2)), .int (nI (σ 0 3))]) (rest := []) ⟨hx, hb, hml, hown, hts⟩ (k_pick l b L xs (12 * k + 2) (σ 0 3) hL (by omega) hfn (by omega)) (va_cwS 3 hts gL_law_L_pick rfl rfl rfl (by decide +kernel) ⟨Nat.le_of_ble_eq_true rfl, Nat.le_of_ble_eq_true rfl⟩) ⟨qXs.blind, qXs.pre (hX.kept (hS.2.1 b hbl (Nat.not_le.mpr hbl))) (Nat.lt_of_lt_of_le hbl hS.1)⟩ rfl rfl hl.1 rfl (lv_room (Nat.le_of_ble_eq_true rfl)) dL_law_619 ⟨by show cells ≤ 600192; omega, by show slots ≤ 7296936; omega⟩) hS (fun _ h => h.elim) (fun x9 locs hx9 hS => ?_)
  obtain ⟨f0, h_f0, rfl⟩ := hx9
  refine lv_istore (lv' := [(12, .int (nI f0)), (0, .ref (b)), (1, .ref (ad 0 0)), (2, .ref (zm)), (3, .ref (za)), (4, .ref (zb)), (5, .int (nI (σ 0 0))), (6, .int (nI (σ 0 2))), (7, .int (nI 1)), (8, .int (nI k)), (9, .int (nI (12 * k))), (10, .int (nI j)), (11, .int (nI s0))]) hx hb dL_law_622 hl (by decide) rfl (fun ls hl => ?_)
  refine lv_aload_n hx hb dL_law_624 rfl (lv_at hl 2 rfl) ?_
  refine lv_bipush (v := nI 9) hx hb dL_law_625 (by decide) ?_
  refine lv_aload_n hx hb dL_law_627 rfl (lv_at hl 2 rfl) ?_
  refine lv_bipush (v := nI 13) hx hb dL_law_628 (by decide) ?_
  refine lv_iload hx hb dL_law_630 (lv_at hl 0 rfl) ?_
  refine lv_iconst (v := nI 0) hx hb dL_law_632 (by decide) ?_
  obtain ⟨q1, q2, q3, q4⟩ := hv.1.2.2.2.1 f0 h_f0
  have hal := hF.alt h_f0
  refine q_v (vx_runSW (As := [.ref (ad 0 0), .int (nI 13), .int (nI f0), .int (nI 0)]) (rest := [.int (nI 9), .ref (ad 0 0)]) ⟨hx, hb, hml, hown, hts⟩ (b_alertOf l G es A σ ad hF f0 h_f0 (nI 0)) (vx_cwSW 4 hts gL_law_L_ask rfl rfl rfl (by decide +kernel) ⟨Nat.le_of_ble_eq_true rfl, Nat.le_of_ble_eq_true rfl⟩) ⟨qR.blind, qR.pre hC hW⟩ rfl rfl hl.1 rfl (lv_room (Nat.le_of_ble_eq_true rfl)) dL_law_633 ⟨by show cells ≤ 600192; omega, by show slots ≤ 7296936; omega⟩) hS (fun _ h => h.elim) (fun locs hS => ?_)
  refine lv_iconst (v := nI 0) hx hb dL_law_636 (by decide) ?_
  refine q_v (vx_runSW (As := [.ref (ad 0 0), .int (nI 9), .int (nI (σ 160 f0)), .int (nI 0)]) (rest := []) ⟨hx, hb, hml, hown, hts⟩ (b_alertState l G es A σ ad hF (σ 160 f0) hal (nI 0)) (vx_cwSW 4 hts gL_law_L_ask rfl rfl rfl (by decide +kernel) ⟨Nat.le_of_ble_eq_true rfl, Nat.le_of_ble_eq_true rfl⟩) ⟨qR.blind, qR.pre hC hW⟩ rfl rfl hl.1 rfl (lv_room (Nat.le_of_ble_eq_true rfl)) dL_law_637 ⟨by show cells ≤ 600192; omega, by show slots ≤ 7296936; omega⟩) hS (fun _ h => h.elim) (fun locs hS => ?_)
  refine lv_istore (lv' := [(13, .int (nI (σ 131 (σ 160 f0)))), (12, .int (nI f0)), (0, .ref (b)), (1, .ref (ad 0 0)), (2, .ref (zm)), (3, .ref (za)), (4, .ref (zb)), (5, .int (nI (σ 0 0))), (6, .int (nI (σ 0 2))), (7, .int (nI 1)), (8, .int (nI k)), (9, .int (nI (12 * k))), (10, .int (nI j)), (11, .int (nI s0))]) hx hb dL_law_640 hl (by decide) rfl (fun ls hl => ?_)
  refine lv_aload_n hx hb dL_law_642 rfl (lv_at hl 3 rfl) ?_
  refine lv_bipush (v := nI 15) hx hb dL_law_643 (by decide) ?_
  refine lv_iload hx hb dL_law_645 (lv_at hl 1 rfl) ?_
  refine lv_iconst (v := nI 0) hx hb dL_law_647 (by decide) ?_
  refine q_v (vx_runSW (As := [.ref (ad 0 0), .int (nI 15), .int (nI f0), .int (nI 0)]) (rest := []) ⟨hx, hb, hml, hown, hts⟩ (b_ground l G es A σ ad hF f0 h_f0 (nI 0)) (vx_cwSW 4 hts gL_law_L_ask rfl rfl rfl (by decide +kernel) ⟨Nat.le_of_ble_eq_true rfl, Nat.le_of_ble_eq_true rfl⟩) ⟨qR.blind, qR.pre hC hW⟩ rfl rfl hl.1 rfl (lv_room (Nat.le_of_ble_eq_true rfl)) dL_law_648 ⟨by show cells ≤ 600192; omega, by show slots ≤ 7296936; omega⟩) hS (fun _ h => h.elim) (fun locs hS => ?_)
  refine lv_istore (lv' := [(14, .int (nI (σ 163 f0))), (13, .int (nI (σ 131 (σ 160 f0)))), (12, .int (nI f0)), (0, .ref (b)), (1, .ref (ad 0 0)), (2, .ref (zm)), (3, .ref (za)), (4, .ref (zb)), (5, .int (nI (σ 0 0))), (6, .int (nI (σ 0 2))), (7, .int (nI 1)), (8, .int (nI k)), (9, .int (nI (12 * k))), (10, .int (nI j)), (11, .int (nI s0))]) hx hb dL_law_651 hl (by decide) rfl (fun ls hl => ?_)
  refine lv_aload_n hx hb dL_law_653 rfl (lv_at hl 4 rfl) ?_
  refine lv_iconst (v := nI 3) hx hb dL_law_654 (by decide) ?_
  refine lv_iload hx hb dL_law_655 (lv_at hl 2 rfl) ?_
  refine lv_iconst (v := nI 0) hx hb dL_law_657 (by decide) ?_
  by_cases h162 : σ 162 f0 = 0
  · skip
    by_cases hfree : σ 131 (σ 160 f0) = 113 ∨ σ 134 (σ 160 f0) ≠ f0 + 1
    · skip
      obtain ⟨u1, u2, ⟨t1, t2, t3, t4, t5⟩, t6, t7, t8, t9, t10⟩ := jRls hv hj h_f0 h162 hfree
      have h800 := (qfAs_ok u2 4).2.2
      refine q_wv (vx_runSW (As := [.ref (ad 0 0), .int (nI 3), .int (nI f0), .int (nI 0)]) (rest := []) ⟨hx, hb, hml, hown, hts⟩ (d_release l G es A σ ad hF f0 h_f0 h162 hfree u1 u2 (nI 0)) (vx_cwSW 4 hts gL_law_L_deed rfl rfl rfl (by decide +kernel) ⟨Nat.le_of_ble_eq_true rfl, Nat.le_of_ble_eq_true rfl⟩) ⟨qW.blind, qW.pre hC hW hZ0 hS hD.a (hD.up hhz)⟩ rfl rfl hl.1 rfl (lv_room (Nat.le_of_ble_eq_true rfl)) dL_law_658 ⟨by show cells + 0 ≤ 600192; omega, by show slots + 0 ≤ 7296936; omega⟩) hS hD.a hD.a (fun H1 locs hP9 hz1 hk hS => ?_)
      have hW := hP9
      have hhz := Nat.le_trans hhz hz1
      have hat_m := hat_m.kept (hk _ hat_m.lt hD.2.2.1.1)
      have hat_a := hat_a.kept (hk _ hat_a.lt hD.2.2.1.2.1)
      have hat_b := hat_b.kept (hk _ hat_b.lt hD.2.2.1.2.2)
      obtain ⟨v9, hv9⟩ : ∃ v9, v9 = (qfAs (qfGu (qup σ 162 f0 1) f0) 4).2 := ⟨_, rfl⟩
      rw [← hv9] at h800
      refine q_ti (y := nI v9) (by rw [hv9]) ?_
      generalize (qfAs (qfGu (qup σ 162 f0 1) f0) 4).1 = τ at hW t1 t2 t3 t4 t5 t6 t7 t8 t9 t10
      have hτF := t1.1.wf
      refine lv_istore (lv' := [(15, .int (nI v9)), (14, .int (nI (σ 163 f0))), (13, .int (nI (σ 131 (σ 160 f0)))), (12, .int (nI f0)), (0, .ref (b)), (1, .ref (ad 0 0)), (2, .ref (zm)), (3, .ref (za)), (4, .ref (zb)), (5, .int (nI (σ 0 0))), (6, .int (nI (σ 0 2))), (7, .int (nI 1)), (8, .int (nI k)), (9, .int (nI (12 * k))), (10, .int (nI j)), (11, .int (nI s0))]) hx hb dL_law_661 hl (by decide) rfl (fun ls hl => ?_)
      refine lv_iload hx hb dL_law_663 (lv_at hl 0 rfl) ?_
      refine lv_sipush (v := -2004) hx hb dL_law_665 (by decide) ?_
      refine q_neP (P := False) (tgt := 686) hx hb (iff_of_false (l_neg (by omega) _ (by decide)) (fun z => z)) dL_law_668 (by decide) (fun c1 => ?_) (fun c1 => c1.elim)
      refine lv_iload hx hb dL_law_686 (lv_at hl 0 rfl) ?_
      refine lv_sipush (v := -2003) hx hb dL_law_688 (by decide) ?_
      refine q_neP (P := False) (tgt := 707) hx hb (iff_of_false (l_neg (by omega) _ (by decide)) (fun z => z)) dL_law_691 (by decide) (fun c1 => ?_) (fun c1 => c1.elim)
      refine lv_iload hx hb dL_law_707 (lv_at hl 0 rfl) ?_
      refine q_lt0 (tgt := 742) hx hb (by omega) dL_law_709 (by decide) (fun gq1 => gq1.elim) (fun gq1 => ?_)
      refine lv_aload_n hx hb dL_law_712 rfl (lv_at hl 5 rfl) ?_
      refine lv_bipush (v := nI 15) hx hb dL_law_713 (by decide) ?_
      refine lv_iload hx hb dL_law_715 (lv_at hl 3 rfl) ?_
      refine lv_iconst (v := nI 0) hx hb dL_law_717 (by decide) ?_
      refine q_v (vx_runSW (As := [.ref (ad 0 0), .int (nI 15), .int (nI f0), .int (nI 0)]) (rest := []) ⟨hx, hb, hml, hown, hts⟩ (b_ground l G es A τ ad hτF f0 (by omega) (nI 0)) (vx_cwSW 4 hts gL_law_L_ask rfl rfl rfl (by decide +kernel) ⟨Nat.le_of_ble_eq_true rfl, Nat.le_of_ble_eq_true rfl⟩) ⟨qR.blind, qR.pre hC hW⟩ rfl rfl hl.1 rfl (lv_room (Nat.le_of_ble_eq_true rfl)) dL_law_718 ⟨by show cells + 0 ≤ 600192; omega, by show slots + 0 ≤ 7296936; omega⟩) hS (fun _ h => h.elim) (fun locs hS => ?_)
      refine q_ti (y := nI 0) (by rw [t10]) ?_
      refine q_ne0 (tgt := 742) hx hb (by decide) dL_law_721 (by decide) (fun gq2 => (by omega)) (fun gq2 => ?_)
      refine lv_aload_n hx hb dL_law_724 rfl (lv_at hl 5 rfl) ?_
      refine lv_iconst (v := nI 3) hx hb dL_law_725 (by decide) ?_
      refine lv_iload hx hb dL_law_726 (lv_at hl 3 rfl) ?_
      refine lv_iconst (v := nI 0) hx hb dL_law_728 (by decide) ?_
      have hft : f0 < τ 0 3 := by omega
      refine q_ask (vx_runSW (As := [.ref (ad 0 0), .int (nI 3), .int (nI f0), .int (nI 0)]) (rest := []) ⟨hx, hb, hml, hown, hts⟩ (dx_release2 l hst G es A τ ad hτF f0 hft t9 (nI 0)) (vx_cwSW 4 hts gL_law_L_deed rfl rfl rfl (by decide +kernel) ⟨Nat.le_of_ble_eq_true rfl, Nat.le_of_ble_eq_true rfl⟩) ⟨qAk.blind, qAk.pre hC hW (hD.z hZ0 hS) (hD.up hhz) hzT hzN⟩ rfl rfl hl.1 rfl (lv_room (Nat.le_of_ble_eq_true rfl)) dL_law_729 ⟨by show cells + 0 + 1 ≤ 600192; omega, by show slots + 0 + 6 ≤ 7296936; omega⟩) hS hD.a (fun H2 locs hz1 hk hS => ?_)
      have hW := hW.same hk
      have hhz := Nat.le_trans hhz hz1
      have hat_m := hat_m.kept (hk _ hat_m.lt)
      have hat_a := hat_a.kept (hk _ hat_a.lt)
      have hat_b := hat_b.kept (hk _ hat_b.lt)
      refine lv_sipush (v := -2003) hx hb dL_law_732 (by decide) ?_
      refine q_neP (P := True) (tgt := 742) hx hb (iff_of_true rfl trivial) dL_law_735 (by decide) (fun c1 => absurd trivial c1) (fun c1 => ?_)
      refine lv_iconst (v := nI 1) hx hb dL_law_738 (by decide) ?_
      refine lv_goto (tgt := 743) hx hb dL_law_739 (by decide) ?_
      refine lv_istore (lv' := [(7, .int (nI 1)), (15, .int (nI v9)), (14, .int (nI (σ 163 f0))), (13, .int (nI (σ 131 (σ 160 f0)))), (12, .int (nI f0)), (0, .ref (b)), (1, .ref (ad 0 0)), (2, .ref (zm)), (3, .ref (za)), (4, .ref (zb)), (5, .int (nI (σ 0 0))), (6, .int (nI (σ 0 2))), (8, .int (nI k)), (9, .int (nI (12 * k))), (10, .int (nI j)), (11, .int (nI s0))]) hx hb dL_law_743 hl (by decide) rfl (fun ls hl => ?_)
      refine lv_goto (tgt := 836) hx hb dL_law_745 (by decide) ?_
      have hl : lv_has ls 16 [(7, .int (nI 1)), (15, .int (nI v9)), (14, .int (nI (σ 163 f0))), (13, .int (nI (σ 131 (σ 160 f0)))), (12, .int (nI f0)), (0, .ref (b)), (1, .ref (ad 0 0)), (2, .ref (zm)), (3, .ref (za)), (4, .ref (zb)), (5, .int (nI (τ 0 0))), (6, .int (nI (τ 0 2))), (8, .int (nI k)), (9, .int (nI (12 * k))), (10, .int (nI j)), (11, .int (nI s0))] := by rw [t4, t5]; exact hl
      refine va_forget (fun q9 h9 => hS.2.2 q9 h9) ?_
      refine W.widen (k := cells + 40) (n := slots + 15000) (by omega) (by omega) ?_
      exact next τ ad mf af bf _ ls ⟨t1, t2, hW, jM_ext hM t3 t4 (fun _ _ => rfl), jAr_ext hAr t3 t5 (fun _ _ => rfl), (fun i9 h9 => by rw [t7]; exact hBu i9 h9), hat_m, hat_a, hat_b, hS.forget, hhz, by omega, by omega⟩ (lv_sub hl [5, 6, 7, 8, 9, 10, 11, 0, 12, 14] rfl)
    · skip
      have h3 : σ 131 (σ 160 f0) ≠ 113 := fun z => hfree (Or.inl z)
      have h4 : σ 134 (σ 160 f0) = f0 + 1 := Classical.byContradiction fun z => hfree (Or.inr z)
      refine q_ask (vx_runSW (As := [.ref (ad 0 0), .int (nI 3), .int (nI f0), .int (nI 0)]) (rest := []) ⟨hx, hb, hml, hown, hts⟩ (dx_release3 l hst G es A σ ad hF f0 h_f0 h162 h3 h4 (nI 0)) (vx_cwSW 4 hts gL_law_L_deed rfl rfl rfl (by decide +kernel) ⟨Nat.le_of_ble_eq_true rfl, Nat.le_of_ble_eq_true rfl⟩) ⟨qAk.blind, qAk.pre hC hW (hD.z hZ0 hS) (hD.up hhz) hzT hzN⟩ rfl rfl hl.1 rfl (lv_room (Nat.le_of_ble_eq_true rfl)) dL_law_658 ⟨by show cells + 1 ≤ 600192; omega, by show slots + 6 ≤ 7296936; omega⟩) hS hD.a (fun H3 locs hz1 hk hS => ?_)
      have hW := hW.same hk
      have hhz := Nat.le_trans hhz hz1
      have hat_m := hat_m.kept (hk _ hat_m.lt)
      have hat_a := hat_a.kept (hk _ hat_a.lt)
      have hat_b := hat_b.kept (hk _ hat_b.lt)
      refine lv_istore (lv' := [(15, .int (-2004)), (14, .int (nI (σ 163 f0))), (13, .int (nI (σ 131 (σ 160 f0)))), (12, .int (nI f0)), (0, .ref (b)), (1, .ref (ad 0 0)), (2, .ref (zm)), (3, .ref (za)), (4, .ref (zb)), (5, .int (nI (σ 0 0))), (6, .int (nI (σ 0 2))), (7, .int (nI 1)), (8, .int (nI k)), (9, .int (nI (12 * k))), (10, .int (nI j)), (11, .int (nI s0))]) hx hb dL_law_661 hl (by decide) rfl (fun ls hl => ?_)
      refine lv_iload hx hb dL_law_663 (lv_at hl 0 rfl) ?_
      refine lv_sipush (v := -2004) hx hb dL_law_665 (by decide) ?_
      refine q_neP (P := True) (tgt := 686) hx hb (iff_of_true rfl trivial) dL_law_668 (by decide) (fun c1 => absurd trivial c1) (fun c1 => ?_)
      refine lv_iload hx hb dL_law_671 (lv_at hl 2 rfl) ?_
      refine lv_bipush (v := nI 113) hx hb dL_law_673 (by decide) ?_
      refine q_eq (tgt := 682) hx hb (q31 (hB _ _)) (by decide) dL_law_675 (by decide) (fun gq3 => (by omega)) (fun gq3 => ?_)
      refine lv_iconst (v := nI 1) hx hb dL_law_678 (by decide) ?_
      refine lv_goto (tgt := 743) hx hb dL_law_679 (by decide) ?_
      refine lv_istore (lv' := [(7, .int (nI 1)), (15, .int (-2004)), (14, .int (nI (σ 163 f0))), (13, .int (nI (σ 131 (σ 160 f0)))), (12, .int (nI f0)), (0, .ref (b)), (1, .ref (ad 0 0)), (2, .ref (zm)), (3, .ref (za)), (4, .ref (zb)), (5, .int (nI (σ 0 0))), (6, .int (nI (σ 0 2))), (8, .int (nI k)), (9, .int (nI (12 * k))), (10, .int (nI j)), (11, .int (nI s0))]) hx hb dL_law_743 hl (by decide) rfl (fun ls hl => ?_)
      refine lv_goto (tgt := 836) hx hb dL_law_745 (by decide) ?_
      refine va_forget (fun q9 h9 => hS.2.2 q9 h9) ?_
      refine W.widen (k := cells + 40) (n := slots + 15000) (by omega) (by omega) ?_
      exact next σ ad mf af bf _ ls ⟨hv, hj, hW, hM, hAr, hBu, hat_m, hat_a, hat_b, hS.forget, hhz, by omega, by omega⟩ (lv_sub hl [5, 6, 7, 8, 9, 10, 11, 0, 12, 14] rfl)
  · skip
    have h1 : σ 162 f0 = 1 := by omega
    refine q_ask (vx_runSW (As := [.ref (ad 0 0), .int (nI 3), .int (nI f0), .int (nI 0)]) (rest := []) ⟨hx, hb, hml, hown, hts⟩ (dx_release2 l hst G es A σ ad hF f0 h_f0 h1 (nI 0)) (vx_cwSW 4 hts gL_law_L_deed rfl rfl rfl (by decide +kernel) ⟨Nat.le_of_ble_eq_true rfl, Nat.le_of_ble_eq_true rfl⟩) ⟨qAk.blind, qAk.pre hC hW (hD.z hZ0 hS) (hD.up hhz) hzT hzN⟩ rfl rfl hl.1 rfl (lv_room (Nat.le_of_ble_eq_true rfl)) dL_law_658 ⟨by show cells + 1 ≤ 600192; omega, by show slots + 6 ≤ 7296936; omega⟩) hS hD.a (fun H4 locs hz1 hk hS => ?_)
    have hW := hW.same hk
    have hhz := Nat.le_trans hhz hz1
    have hat_m := hat_m.kept (hk _ hat_m.lt)
    have hat_a := hat_a.kept (hk _ hat_a.lt)
    have hat_b := hat_b.kept (hk _ hat_b.lt)
    refine lv_istore (lv' := [(15, .int (-2003)), (14, .int (nI (σ 163 f0))), (13, .int (nI (σ 131 (σ 160 f0)))), (12, .int (nI f0)), (0, .ref (b)), (1, .ref (ad 0 0)), (2, .ref (zm)), (3, .ref (za)), (4, .ref (zb)), (5, .int (nI (σ 0 0))), (6, .int (nI (σ 0 2))), (7, .int (nI 1)), (8, .int (nI k)), (9, .int (nI (12 * k))), (10, .int (nI j)), (11, .int (nI s0))]) hx hb dL_law_661 hl (by decide) rfl (fun ls hl => ?_)
    refine lv_iload hx hb dL_law_663 (lv_at hl 0 rfl) ?_
    refine lv_sipush (v := -2004) hx hb dL_law_665 (by decide) ?_
    refine q_neP (P := False) (tgt := 686) hx hb (iff_of_false (by decide) (fun z => z)) dL_law_668 (by decide) (fun c1 => ?_) (fun c1 => c1.elim)
    refine lv_iload hx hb dL_law_686 (lv_at hl 0 rfl) ?_
    refine lv_sipush (v := -2003) hx hb dL_law_688 (by decide) ?_
    refine q_neP (P := True) (tgt := 707) hx hb (iff_of_true rfl trivial) dL_law_691 (by decide) (fun c1 => absurd trivial c1) (fun c1 => ?_)
    have h163 : σ 163 f0 = 0 := by rw [q2]; exact qsum_zero _ (fun l9 _ => qB_f (q4 (by omega) l9))
    refine lv_iload hx hb dL_law_694 (lv_at hl 1 rfl) ?_
    refine q_ne0 (tgt := 703) hx hb (q31 (hB _ _)) dL_law_696 (by decide) (fun gq4 => (by omega)) (fun gq4 => ?_)
    refine lv_iconst (v := nI 1) hx hb dL_law_699 (by decide) ?_
    refine lv_goto (tgt := 743) hx hb dL_law_700 (by decide) ?_
    refine lv_istore (lv' := [(7, .int (nI 1)), (15, .int (-2003)), (14, .int (nI (σ 163 f0))), (13, .int (nI (σ 131 (σ 160 f0)))), (12, .int (nI f0)), (0, .ref (b)), (1, .ref (ad 0 0)), (2, .ref (zm)), (3, .ref (za)), (4, .ref (zb)), (5, .int (nI (σ 0 0))), (6, .int (nI (σ 0 2))), (8, .int (nI k)), (9, .int (nI (12 * k))), (10, .int (nI j)), (11, .int (nI s0))]) hx hb dL_law_743 hl (by decide) rfl (fun ls hl => ?_)
    refine lv_goto (tgt := 836) hx hb dL_law_745 (by decide) ?_
    refine va_forget (fun q9 h9 => hS.2.2 q9 h9) ?_
    refine W.widen (k := cells + 40) (n := slots + 15000) (by omega) (by omega) ?_
    exact next σ ad mf af bf _ ls ⟨hv, hj, hW, hM, hAr, hBu, hat_m, hat_a, hat_b, hS.forget, hhz, by omega, by omega⟩ (lv_sub hl [5, 6, 7, 8, 9, 10, 11, 0, 12, 14] rfl)
set_option maxHeartbeats 4000000 in
set_option maxRecDepth 100000 in
theorem c_pass (cx : lC p l s m meth c b L xs G es zm za zb hz A) {k : Nat} (hk : k < 60) {σ ad : QSt} {mf af bf : Nat → Int32} {H : Heap} {ls : Array Slot} (hI : lS G es A zm za zb hz s k σ ad mf af bf H) {j s0 : Nat} (hj9 : j = j) (hs0 : s0 < 2) (hl : lv_has ls 16 [(0, .ref (b)), (1, .ref (ad 0 0)), (2, .ref (zm)), (3, .ref (za)), (4, .ref (zb)), (5, .int (nI (σ 0 0))), (6, .int (nI (σ 0 2))), (7, .int (nI 1)), (8, .int (nI k)), (9, .int (nI (12 * k))), (10, .int (nI j)), (11, .int (nI s0))]) {cells slots : Nat} {Q : State → Prop} (hroom : cells + 40 ≤ 600192 ∧ slots + 15000 ≤ 7296936)
    (next : ∀ (τ ad2 : QSt) (mg ag bg : Nat → Int32) (H2 : Heap) (ls2 : Array Slot), lS G es A zm za zb hz s (k + 1) τ ad2 mg ag bg H2 → lv_has ls2 16 [(0, .ref (b)), (1, .ref (ad2 0 0)), (2, .ref (zm)), (3, .ref (za)), (4, .ref (zb)), (5, .int (nI (τ 0 0))), (6, .int (nI (τ 0 2))), (7, .int (nI 1)), (8, .int (nI k)), (10, .int (nI j))] → W p l e room_1 s m #[Value.ref b] below meth c H2 [] (cells + 40) (slots + 15000) Q (F0 m 836 ls2 [])) : W p l e room_1 s m #[Value.ref b] below meth c H [] cells slots Q (F0 m 748 ls []) := by
  obtain ⟨hx, hb, hml, hown, hts, hlocks, hst, hX, hbl, hC, hZ0, hzT, hzN, hL, hD⟩ := cx
  obtain ⟨hv, hj, hW, hM, hAr, hBu, hat_m, hat_a, hat_b, hS, hhz, hk0, hk1⟩ := hI
  have hF := hv.1.wf
  have hB := hF.1
  have hn := hF.n
  refine lv_iconst (v := nI 1) hx hb dL_law_748 (by decide) ?_
  refine lv_aload_n hx hb dL_law_749 rfl (lv_at hl 0 rfl) ?_
  refine lv_iload hx hb dL_law_750 (lv_at hl 9 rfl) ?_
  refine lv_iconst (v := nI 2) hx hb dL_law_752 (by decide) ?_
  refine lv_iadd hx hb dL_law_753 ?_
  refine q_ti (nI_add (12 * k) 2) ?_
  refine lv_iconst (v := nI 4) hx hb dL_law_754 (by decide) ?_
  refine q_vE (va_runS (As := [.ref (b), .int (nI ((12 * k) + 2)), .int (nI 4)]) (rest := [.int (nI 1)]) ⟨hx, hb, hml, hown, hts⟩ (k_pick l b L xs (12 * k + 2) (4) hL (by omega) (by decide) (by decide)) (va_cwS 3 hts gL_law_L_pick rfl rfl rfl (by decide +kernel) ⟨Nat.le_of_ble_eq_true rfl, Nat.le_of_ble_eq_true rfl⟩) ⟨qXs.blind, qXs.pre (hX.kept (hS.2.1 b hbl (Nat.not_le.mpr hbl))) (Nat.lt_of_lt_of_le hbl hS.1)⟩ rfl rfl hl.1 rfl (lv_room (Nat.le_of_ble_eq_true rfl)) dL_law_755 ⟨by show cells ≤ 600192; omega, by show slots ≤ 7296936; omega⟩) hS (fun _ h => h.elim) (fun x9 locs hx9 hS => ?_)
  obtain ⟨jt, h_jt, rfl⟩ := hx9
  refine lv_iadd hx hb dL_law_758 ?_
  refine q_ti (nI_add 1 jt) ?_
  refine lv_istore (lv' := [(12, .int (nI (1 + jt))), (0, .ref (b)), (1, .ref (ad 0 0)), (2, .ref (zm)), (3, .ref (za)), (4, .ref (zb)), (5, .int (nI (σ 0 0))), (6, .int (nI (σ 0 2))), (7, .int (nI 1)), (8, .int (nI k)), (9, .int (nI (12 * k))), (10, .int (nI j)), (11, .int (nI s0))]) hx hb dL_law_759 hl (by decide) rfl (fun ls hl => ?_)
  refine lv_aload_n hx hb dL_law_761 rfl (lv_at hl 2 rfl) ?_
  refine q_v (va_runV (As := []) (rest := []) ⟨hx, hb, hml, hown, hts⟩ (m_tick l G es A σ ad hF) (cwV 0 hts gL_law_X7_tick rfl rfl rfl (by decide +kernel) ⟨Nat.le_of_ble_eq_true rfl, Nat.le_of_ble_eq_true rfl⟩) ⟨qR.blind, qrecv hC (hW.to qLV0) rfl, qR.pre hC hW⟩ rfl rfl hl.1 rfl (lv_room (Nat.le_of_ble_eq_true rfl)) dL_law_762 ⟨by show cells ≤ 600192; omega, by show slots ≤ 7296936; omega⟩) hS (fun _ h => h.elim) (fun locs hS => ?_)
  refine lv_istore (lv' := [(13, .int (nI (σ 1 0))), (12, .int (nI (1 + jt))), (0, .ref (b)), (1, .ref (ad 0 0)), (2, .ref (zm)), (3, .ref (za)), (4, .ref (zb)), (5, .int (nI (σ 0 0))), (6, .int (nI (σ 0 2))), (7, .int (nI 1)), (8, .int (nI k)), (9, .int (nI (12 * k))), (10, .int (nI j)), (11, .int (nI s0))]) hx hb dL_law_765 hl (by decide) rfl (fun ls hl => ?_)
  refine lv_aload_n hx hb dL_law_767 rfl (lv_at hl 3 rfl) ?_
  refine lv_bipush (v := nI 7) hx hb dL_law_768 (by decide) ?_
  refine lv_iconst (v := nI 0) hx hb dL_law_770 (by decide) ?_
  refine lv_iconst (v := nI 0) hx hb dL_law_771 (by decide) ?_
  refine q_v (vx_runSW (As := [.ref (ad 0 0), .int (nI 7), .int (nI 0), .int (nI 0)]) (rest := []) ⟨hx, hb, hml, hown, hts⟩ (b_dropped l G es A σ ad hF 0 (by decide) (nI 0)) (vx_cwSW 4 hts gL_law_L_ask rfl rfl rfl (by decide +kernel) ⟨Nat.le_of_ble_eq_true rfl, Nat.le_of_ble_eq_true rfl⟩) ⟨qR.blind, qR.pre hC hW⟩ rfl rfl hl.1 rfl (lv_room (Nat.le_of_ble_eq_true rfl)) dL_law_772 ⟨by show cells ≤ 600192; omega, by show slots ≤ 7296936; omega⟩) hS (fun _ h => h.elim) (fun locs hS => ?_)
  refine q_ti (y := nI (qdr σ 0)) rfl ?_
  refine lv_aload_n hx hb dL_law_775 rfl (lv_at hl 3 rfl) ?_
  refine lv_bipush (v := nI 7) hx hb dL_law_776 (by decide) ?_
  refine lv_iconst (v := nI 1) hx hb dL_law_778 (by decide) ?_
  refine lv_iconst (v := nI 0) hx hb dL_law_779 (by decide) ?_
  refine q_v (vx_runSW (As := [.ref (ad 0 0), .int (nI 7), .int (nI 1), .int (nI 0)]) (rest := [.int (nI (qdr σ 0))]) ⟨hx, hb, hml, hown, hts⟩ (b_dropped l G es A σ ad hF 1 (by decide) (nI 0)) (vx_cwSW 4 hts gL_law_L_ask rfl rfl rfl (by decide +kernel) ⟨Nat.le_of_ble_eq_true rfl, Nat.le_of_ble_eq_true rfl⟩) ⟨qR.blind, qR.pre hC hW⟩ rfl rfl hl.1 rfl (lv_room (Nat.le_of_ble_eq_true rfl)) dL_law_780 ⟨by show cells ≤ 600192; omega, by show slots ≤ 7296936; omega⟩) hS (fun _ h => h.elim) (fun locs hS => ?_)
  refine q_ti (y := nI (qdr σ 1)) rfl ?_
  refine lv_iadd hx hb dL_law_783 ?_
  refine q_ti (nI_add (qdr σ 0) (qdr σ 1)) ?_
  refine lv_istore (lv' := [(14, .int (nI ((qdr σ 0) + (qdr σ 1)))), (13, .int (nI (σ 1 0))), (12, .int (nI (1 + jt))), (0, .ref (b)), (1, .ref (ad 0 0)), (2, .ref (zm)), (3, .ref (za)), (4, .ref (zb)), (5, .int (nI (σ 0 0))), (6, .int (nI (σ 0 2))), (7, .int (nI 1)), (8, .int (nI k)), (9, .int (nI (12 * k))), (10, .int (nI j)), (11, .int (nI s0))]) hx hb dL_law_784 hl (by decide) rfl (fun ls hl => ?_)
  refine lv_aload_n hx hb dL_law_786 rfl (lv_at hl 4 rfl) ?_
  refine lv_iconst (v := nI 4) hx hb dL_law_787 (by decide) ?_
  refine lv_iload hx hb dL_law_788 (lv_at hl 2 rfl) ?_
  refine lv_iconst (v := nI 0) hx hb dL_law_790 (by decide) ?_
  obtain ⟨z1, ⟨t1, t2, t3, t4, t5⟩, t6, t7, t8, t9, t10⟩ := jPass hv hj (by have := l_num hv; omega) (1 + jt) (by omega)
  have e93 := t8 3
  refine q_wv (vx_runSW (As := [.ref (ad 0 0), .int (nI 4), .int (nI (1 + jt)), .int (nI 0)]) (rest := []) ⟨hx, hb, hml, hown, hts⟩ (d_pass l G es A σ ad hF (1 + jt) ⟨by omega, by omega⟩ (by omega) z1 (nI 0)) (vx_cwSW 4 hts gL_law_L_deed rfl rfl rfl (by decide +kernel) ⟨Nat.le_of_ble_eq_true rfl, Nat.le_of_ble_eq_true rfl⟩) ⟨qW.blind, qW.pre hC hW hZ0 hS hD.a (hD.up hhz)⟩ rfl rfl hl.1 rfl (lv_room (Nat.le_of_ble_eq_true rfl)) dL_law_791 ⟨by show cells + (3 * ((qfPs σ (1 + jt)).1 0 3 - σ 0 3)) ≤ 600192; omega, by show slots + (10 * ((qfPs σ (1 + jt)).1 0 3 - σ 0 3) + 3 * ((qfPs σ (1 + jt)).1 32 3 - σ 32 3)) ≤ 7296936; omega⟩) hS hD.a hD.a (fun H1 locs hP9 hz1 hk hS => ?_)
  obtain ⟨ad2, hAE, hW⟩ := hP9
  have hhz := Nat.le_trans hhz hz1
  have hat_m := hat_m.kept (hk _ hat_m.lt hD.2.2.1.1)
  have hat_a := hat_a.kept (hk _ hat_a.lt hD.2.2.1.2.1)
  have hat_b := hat_b.kept (hk _ hat_b.lt hD.2.2.1.2.2)
  have had : ad2 0 0 = ad 0 0 := hAE 0 0 (by decide) (fun z => absurd z (by decide))
  obtain ⟨v9, hv9⟩ : ∃ v9, v9 = (qfPs σ (1 + jt)).2 := ⟨_, rfl⟩
  refine q_ti (y := nI v9) (by rw [hv9]) ?_
  rw [← hv9] at t10
  generalize (qfPs σ (1 + jt)).1 = τ at hW t1 t2 t3 t4 t5 t6 t7 t8 t9 t10 e93 ⊢
  have hτF := t1.1.wf
  rw [jDrop hj.2.2.2, jDrop t2.2.2.2] at t10
  rw [← had] at hl
  refine lv_aload_n hx hb dL_law_794 rfl (lv_at hl 4 rfl) ?_
  refine lv_bipush (v := nI 7) hx hb dL_law_795 (by decide) ?_
  refine lv_iconst (v := nI 0) hx hb dL_law_797 (by decide) ?_
  refine lv_iconst (v := nI 0) hx hb dL_law_798 (by decide) ?_
  refine q_v (vx_runSW (As := [.ref (ad2 0 0), .int (nI 7), .int (nI 0), .int (nI 0)]) (rest := [.int (nI v9)]) ⟨hx, hb, hml, hown, hts⟩ (b_dropped l G es A τ ad2 hτF 0 (by decide) (nI 0)) (vx_cwSW 4 hts gL_law_L_ask rfl rfl rfl (by decide +kernel) ⟨Nat.le_of_ble_eq_true rfl, Nat.le_of_ble_eq_true rfl⟩) ⟨qR.blind, qR.pre hC hW⟩ rfl rfl hl.1 rfl (lv_room (Nat.le_of_ble_eq_true rfl)) dL_law_799 ⟨by show cells + (3 * (τ 0 3 - σ 0 3)) ≤ 600192; omega, by show slots + (10 * (τ 0 3 - σ 0 3) + 3 * (τ 32 3 - σ 32 3)) ≤ 7296936; omega⟩) hS (fun _ h => h.elim) (fun locs hS => ?_)
  refine q_ti (y := nI (qdr τ 0)) rfl ?_
  refine lv_aload_n hx hb dL_law_802 rfl (lv_at hl 4 rfl) ?_
  refine lv_bipush (v := nI 7) hx hb dL_law_803 (by decide) ?_
  refine lv_iconst (v := nI 1) hx hb dL_law_805 (by decide) ?_
  refine lv_iconst (v := nI 0) hx hb dL_law_806 (by decide) ?_
  refine q_v (vx_runSW (As := [.ref (ad2 0 0), .int (nI 7), .int (nI 1), .int (nI 0)]) (rest := [.int (nI (qdr τ 0)), .int (nI v9)]) ⟨hx, hb, hml, hown, hts⟩ (b_dropped l G es A τ ad2 hτF 1 (by decide) (nI 0)) (vx_cwSW 4 hts gL_law_L_ask rfl rfl rfl (by decide +kernel) ⟨Nat.le_of_ble_eq_true rfl, Nat.le_of_ble_eq_true rfl⟩) ⟨qR.blind, qR.pre hC hW⟩ rfl rfl hl.1 rfl (lv_room (Nat.le_of_ble_eq_true rfl)) dL_law_807 ⟨by show cells + (3 * (τ 0 3 - σ 0 3)) ≤ 600192; omega, by show slots + (10 * (τ 0 3 - σ 0 3) + 3 * (τ 32 3 - σ 32 3)) ≤ 7296936; omega⟩) hS (fun _ h => h.elim) (fun locs hS => ?_)
  refine q_ti (y := nI (qdr τ 1)) rfl ?_
  refine lv_iadd hx hb dL_law_810 ?_
  refine q_ti (nI_add (qdr τ 0) (qdr τ 1)) ?_
  refine lv_iload hx hb dL_law_811 (lv_at hl 0 rfl) ?_
  refine lv_isub hx hb dL_law_813 ?_
  refine q_ti (y := nI v9) (by rw [t10, pk_sub (Nat.le_add_right _ _), Nat.add_sub_cancel_left]) ?_
  refine q_neP (P := True) (tgt := 833) hx hb (iff_of_true rfl trivial) dL_law_814 (by decide) (fun c1 => absurd trivial c1) (fun c1 => ?_)
  refine lv_aload_n hx hb dL_law_817 rfl (lv_at hl 4 rfl) ?_
  refine q_v (va_runV (As := []) (rest := []) ⟨hx, hb, hml, hown, hts⟩ (m_tick l G es A τ ad2 hτF) (cwV 0 hts gL_law_X7_tick rfl rfl rfl (by decide +kernel) ⟨Nat.le_of_ble_eq_true rfl, Nat.le_of_ble_eq_true rfl⟩) ⟨qR.blind, qrecv hC (hW.to qLV0) rfl, qR.pre hC hW⟩ rfl rfl hl.1 rfl (lv_room (Nat.le_of_ble_eq_true rfl)) dL_law_818 ⟨by show cells + (3 * (τ 0 3 - σ 0 3)) ≤ 600192; omega, by show slots + (10 * (τ 0 3 - σ 0 3) + 3 * (τ 32 3 - σ 32 3)) ≤ 7296936; omega⟩) hS (fun _ h => h.elim) (fun locs hS => ?_)
  refine lv_iload hx hb dL_law_821 (lv_at hl 1 rfl) ?_
  refine lv_iload hx hb dL_law_823 (lv_at hl 2 rfl) ?_
  refine lv_iadd hx hb dL_law_825 ?_
  refine q_ti (nI_add (σ 1 0) (1 + jt)) ?_
  refine q_neP (P := True) (tgt := 833) hx hb (iff_of_true (by rw [t6]) trivial) dL_law_826 (by decide) (fun c1 => absurd trivial c1) (fun c1 => ?_)
  refine lv_iconst (v := nI 1) hx hb dL_law_829 (by decide) ?_
  refine lv_goto (tgt := 834) hx hb dL_law_830 (by decide) ?_
  refine lv_istore (lv' := [(7, .int (nI 1)), (14, .int (nI ((qdr σ 0) + (qdr σ 1)))), (13, .int (nI (σ 1 0))), (12, .int (nI (1 + jt))), (0, .ref (b)), (1, .ref (ad2 0 0)), (2, .ref (zm)), (3, .ref (za)), (4, .ref (zb)), (5, .int (nI (σ 0 0))), (6, .int (nI (σ 0 2))), (8, .int (nI k)), (9, .int (nI (12 * k))), (10, .int (nI j)), (11, .int (nI s0))]) hx hb dL_law_834 hl (by decide) rfl (fun ls hl => ?_)
  have hl : lv_has ls 16 [(7, .int (nI 1)), (14, .int (nI ((qdr σ 0) + (qdr σ 1)))), (13, .int (nI (σ 1 0))), (12, .int (nI (1 + jt))), (0, .ref (b)), (1, .ref (ad2 0 0)), (2, .ref (zm)), (3, .ref (za)), (4, .ref (zb)), (5, .int (nI (τ 0 0))), (6, .int (nI (τ 0 2))), (8, .int (nI k)), (9, .int (nI (12 * k))), (10, .int (nI j)), (11, .int (nI s0))] := by rw [t4, t5]; exact hl
  refine va_forget (fun q9 h9 => hS.2.2 q9 h9) ?_
  refine W.widen (k := cells + 40) (n := slots + 15000) (by omega) (by omega) ?_
  exact next τ ad2 mf af bf _ ls ⟨t1, t2, hW, jM_ext hM t3 t4 (fun _ _ => rfl), jAr_ext hAr t3 t5 (fun _ _ => rfl), (fun i9 h9 => by rw [t7]; exact hBu i9 h9), hat_m, hat_a, hat_b, hS.forget, hhz, by omega, by omega⟩ (lv_sub hl [4, 5, 6, 7, 8, 9, 10, 0, 11, 13] rfl)
end CB
