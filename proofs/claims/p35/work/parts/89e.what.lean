section CW
variable {p : Program} {l : Launch} {e : Env} {s : State} {m : MethodId} {below : List Frame} {meth : Method} {c : Code} {b L : Nat} {xs : Nat → Int32} {G : QG} {es zm za zb hz : Nat} {A : Nat → Prop}
set_option maxHeartbeats 4000000 in
set_option maxRecDepth 100000 in
theorem c_what (cx : lC p l s m meth c b L xs G es zm za zb hz A) {k : Nat} (hk : k < 60) {σ ad : QSt} {mf af bf : Nat → Int32} {H : Heap} {ls : Array Slot} (hI : lS G es A zm za zb hz s k σ ad mf af bf H) (hl : lv_has ls 16 [(0, .ref (b)), (1, .ref (ad 0 0)), (2, .ref (zm)), (3, .ref (za)), (4, .ref (zb)), (5, .int (nI (σ 0 0))), (6, .int (nI (σ 0 2))), (7, .int (nI 1)), (8, .int (nI k))]) {cells slots : Nat} {Q : State → Prop} (hroom : cells + 40 ≤ 600192 ∧ slots + 15000 ≤ 7296936)
    (next : ∀ j : Nat, j < 12 → ∀ (τ ad2 : QSt) (mg ag bg : Nat → Int32) (H2 : Heap) (ls2 : Array Slot), lS G es A zm za zb hz s (k + 1) τ ad2 mg ag bg H2 → lv_has ls2 16 [(0, .ref (b)), (1, .ref (ad2 0 0)), (2, .ref (zm)), (3, .ref (za)), (4, .ref (zb)), (5, .int (nI (τ 0 0))), (6, .int (nI (τ 0 2))), (7, .int (nI 1)), (8, .int (nI k)), (10, .int (nI j))] → W p l e room_1 s m #[Value.ref b] below meth c H2 [] (cells + 40) (slots + 15000) Q (F0 m 836 ls2 [])) : W p l e room_1 s m #[Value.ref b] below meth c H [] cells slots Q (F0 m 72 ls []) := by
  obtain ⟨hx, hb, hml, hown, hts, hlocks, hst, hX, hbl, hC, hZ0, hzT, hzN, hL, hD⟩ := id cx
  obtain ⟨hv, hj, hW, hM, hAr, hBu, hat_m, hat_a, hat_b, hS, hhz, hk0, hk1⟩ := id hI
  have hF := hv.1.wf
  have hB := hF.1
  have hn := hF.n
  refine lv_bipush (v := nI 12) hx hb dL_law_72 (by decide) ?_
  refine lv_iload hx hb dL_law_74 (lv_at hl 8 rfl) ?_
  refine lv_imul hx hb dL_law_76 ?_
  refine q_ti (pk_mul 12 k) ?_
  refine lv_istore (lv' := [(9, .int (nI (12 * k))), (0, .ref (b)), (1, .ref (ad 0 0)), (2, .ref (zm)), (3, .ref (za)), (4, .ref (zb)), (5, .int (nI (σ 0 0))), (6, .int (nI (σ 0 2))), (7, .int (nI 1)), (8, .int (nI k))]) hx hb dL_law_77 hl (by decide) rfl (fun ls hl => ?_)
  refine lv_aload_n hx hb dL_law_79 rfl (lv_at hl 1 rfl) ?_
  refine lv_iload hx hb dL_law_80 (lv_at hl 0 rfl) ?_
  refine lv_bipush (v := nI 12) hx hb dL_law_82 (by decide) ?_
  refine q_vE (va_runS (As := [.ref (b), .int (nI (12 * k)), .int (nI 12)]) (rest := []) ⟨hx, hb, hml, hown, hts⟩ (k_pick l b L xs (12 * k) (12) hL (by omega) (by decide) (by decide)) (va_cwS 3 hts gL_law_L_pick rfl rfl rfl (by decide +kernel) ⟨Nat.le_of_ble_eq_true rfl, Nat.le_of_ble_eq_true rfl⟩) ⟨qXs.blind, qXs.pre (hX.kept (hS.2.1 b hbl (Nat.not_le.mpr hbl))) (Nat.lt_of_lt_of_le hbl hS.1)⟩ rfl rfl hl.1 rfl (lv_room (Nat.le_of_ble_eq_true rfl)) dL_law_84 ⟨by show cells ≤ 600192; omega, by show slots ≤ 7296936; omega⟩) hS (fun _ h => h.elim) (fun x9 locs hx9 hS => ?_)
  obtain ⟨j, h_j, rfl⟩ := hx9
  refine lv_istore (lv' := [(10, .int (nI j)), (9, .int (nI (12 * k))), (0, .ref (b)), (1, .ref (ad 0 0)), (2, .ref (zm)), (3, .ref (za)), (4, .ref (zb)), (5, .int (nI (σ 0 0))), (6, .int (nI (σ 0 2))), (7, .int (nI 1)), (8, .int (nI k))]) hx hb dL_law_87 hl (by decide) rfl (fun ls hl => ?_)
  refine lv_aload_n hx hb dL_law_89 rfl (lv_at hl 2 rfl) ?_
  refine lv_iload hx hb dL_law_90 (lv_at hl 1 rfl) ?_
  refine lv_iconst (v := nI 1) hx hb dL_law_92 (by decide) ?_
  refine lv_iadd hx hb dL_law_93 ?_
  refine q_ti (nI_add (12 * k) 1) ?_
  refine lv_iconst (v := nI 2) hx hb dL_law_94 (by decide) ?_
  refine q_vE (va_runS (As := [.ref (b), .int (nI ((12 * k) + 1)), .int (nI 2)]) (rest := []) ⟨hx, hb, hml, hown, hts⟩ (k_pick l b L xs (12 * k + 1) (2) hL (by omega) (by decide) (by decide)) (va_cwS 3 hts gL_law_L_pick rfl rfl rfl (by decide +kernel) ⟨Nat.le_of_ble_eq_true rfl, Nat.le_of_ble_eq_true rfl⟩) ⟨qXs.blind, qXs.pre (hX.kept (hS.2.1 b hbl (Nat.not_le.mpr hbl))) (Nat.lt_of_lt_of_le hbl hS.1)⟩ rfl rfl hl.1 rfl (lv_room (Nat.le_of_ble_eq_true rfl)) dL_law_95 ⟨by show cells ≤ 600192; omega, by show slots ≤ 7296936; omega⟩) hS (fun _ h => h.elim) (fun x9 locs hx9 hS => ?_)
  obtain ⟨s0, h_s0, rfl⟩ := hx9
  refine lv_istore (lv' := [(11, .int (nI s0)), (10, .int (nI j)), (9, .int (nI (12 * k))), (0, .ref (b)), (1, .ref (ad 0 0)), (2, .ref (zm)), (3, .ref (za)), (4, .ref (zb)), (5, .int (nI (σ 0 0))), (6, .int (nI (σ 0 2))), (7, .int (nI 1)), (8, .int (nI k))]) hx hb dL_law_98 hl (by decide) rfl (fun ls hl => ?_)
  refine lv_iload hx hb dL_law_100 (lv_at hl 1 rfl) ?_
  refine lv_bipush (v := nI 6) hx hb dL_law_102 (by decide) ?_
  refine q_ge (tgt := 275) hx hb (by omega) (by decide) dL_law_104 (by decide) (fun c5 => ?_) (fun c5 => ?_)
  · skip
    refine lv_iload hx hb dL_law_275 (lv_at hl 1 rfl) ?_
    refine lv_bipush (v := nI 6) hx hb dL_law_277 (by decide) ?_
    refine q_ne (tgt := 446) hx hb (by omega) (by decide) dL_law_279 (by decide) (fun c6 => ?_) (fun c6 => ?_)
    · skip
      refine lv_iload hx hb dL_law_446 (lv_at hl 1 rfl) ?_
      refine lv_bipush (v := nI 7) hx hb dL_law_448 (by decide) ?_
      refine q_ne (tgt := 494) hx hb (by omega) (by decide) dL_law_450 (by decide) (fun c7 => ?_) (fun c7 => ?_)
      · skip
        refine lv_iload hx hb dL_law_494 (lv_at hl 1 rfl) ?_
        refine lv_bipush (v := nI 8) hx hb dL_law_496 (by decide) ?_
        refine q_ne (tgt := 596) hx hb (by omega) (by decide) dL_law_498 (by decide) (fun c8 => ?_) (fun c8 => ?_)
        · skip
          refine lv_iload hx hb dL_law_596 (lv_at hl 1 rfl) ?_
          refine lv_bipush (v := nI 9) hx hb dL_law_598 (by decide) ?_
          refine q_ne (tgt := 748) hx hb (by omega) (by decide) dL_law_600 (by decide) (fun c9 => ?_) (fun c9 => ?_)
          · skip
            refine va_forget (fun q9 h9 => hS.2.2 q9 h9) ?_
            exact c_pass cx hk ⟨hv, hj, hW, hM, hAr, hBu, hat_m, hat_a, hat_b, hS.forget, hhz, hk0, hk1⟩ rfl h_s0 (lv_sub hl [3, 4, 5, 6, 7, 8, 9, 10, 11, 2, 1, 0] rfl) hroom (next j h_j)
          · skip
            refine lv_aload_n hx hb dL_law_603 rfl (lv_at hl 4 rfl) ?_
            refine q_v (va_runV (As := []) (rest := []) ⟨hx, hb, hml, hown, hts⟩ (m_firings l G es A σ ad hF) (cwV 0 hts gL_law_X7_firings rfl rfl rfl (by decide +kernel) ⟨Nat.le_of_ble_eq_true rfl, Nat.le_of_ble_eq_true rfl⟩) ⟨qR.blind, qrecv hC (hW.to qLV0) rfl, qR.pre hC hW⟩ rfl rfl hl.1 rfl (lv_room (Nat.le_of_ble_eq_true rfl)) dL_law_604 ⟨by show cells ≤ 600192; omega, by show slots ≤ 7296936; omega⟩) hS (fun _ h => h.elim) (fun locs hS => ?_)
            refine q_le0 (tgt := 748) hx hb (q31 (hB _ _)) dL_law_607 (by decide) (fun c90 => ?_) (fun c90 => ?_)
            · skip
              refine va_forget (fun q9 h9 => hS.2.2 q9 h9) ?_
              exact c_pass cx hk ⟨hv, hj, hW, hM, hAr, hBu, hat_m, hat_a, hat_b, hS.forget, hhz, hk0, hk1⟩ rfl h_s0 (lv_sub hl [3, 4, 5, 6, 7, 8, 9, 10, 11, 2, 1, 0] rfl) hroom (next j h_j)
            · skip
              refine va_forget (fun q9 h9 => hS.2.2 q9 h9) ?_
              exact c_rls cx hk ⟨hv, hj, hW, hM, hAr, hBu, hat_m, hat_a, hat_b, hS.forget, hhz, hk0, hk1⟩ c9 (by omega) h_s0 (lv_sub hl [3, 4, 5, 6, 7, 8, 9, 10, 11, 2, 1, 0] rfl) hroom (next j h_j)
        · skip
          refine lv_iload hx hb dL_law_501 (lv_at hl 8 rfl) ?_
          refine q_le0 (tgt := 596) hx hb (q31 (hB _ _)) dL_law_503 (by decide) (fun c80 => ?_) (fun c80 => ?_)
          · skip
            refine lv_iload hx hb dL_law_596 (lv_at hl 1 rfl) ?_
            refine lv_bipush (v := nI 9) hx hb dL_law_598 (by decide) ?_
            refine q_ne (tgt := 748) hx hb (by omega) (by decide) dL_law_600 (by decide) (fun c9 => ?_) (fun c9 => ?_)
            · skip
              refine va_forget (fun q9 h9 => hS.2.2 q9 h9) ?_
              exact c_pass cx hk ⟨hv, hj, hW, hM, hAr, hBu, hat_m, hat_a, hat_b, hS.forget, hhz, hk0, hk1⟩ rfl h_s0 (lv_sub hl [3, 4, 5, 6, 7, 8, 9, 10, 11, 2, 1, 0] rfl) hroom (next j h_j)
            · skip
              refine lv_aload_n hx hb dL_law_603 rfl (lv_at hl 4 rfl) ?_
              refine q_v (va_runV (As := []) (rest := []) ⟨hx, hb, hml, hown, hts⟩ (m_firings l G es A σ ad hF) (cwV 0 hts gL_law_X7_firings rfl rfl rfl (by decide +kernel) ⟨Nat.le_of_ble_eq_true rfl, Nat.le_of_ble_eq_true rfl⟩) ⟨qR.blind, qrecv hC (hW.to qLV0) rfl, qR.pre hC hW⟩ rfl rfl hl.1 rfl (lv_room (Nat.le_of_ble_eq_true rfl)) dL_law_604 ⟨by show cells ≤ 600192; omega, by show slots ≤ 7296936; omega⟩) hS (fun _ h => h.elim) (fun locs hS => ?_)
              refine q_le0 (tgt := 748) hx hb (q31 (hB _ _)) dL_law_607 (by decide) (fun c90 => ?_) (fun c90 => ?_)
              · skip
                refine va_forget (fun q9 h9 => hS.2.2 q9 h9) ?_
                exact c_pass cx hk ⟨hv, hj, hW, hM, hAr, hBu, hat_m, hat_a, hat_b, hS.forget, hhz, hk0, hk1⟩ rfl h_s0 (lv_sub hl [3, 4, 5, 6, 7, 8, 9, 10, 11, 2, 1, 0] rfl) hroom (next j h_j)
              · skip
                refine va_forget (fun q9 h9 => hS.2.2 q9 h9) ?_
                exact c_rls cx hk ⟨hv, hj, hW, hM, hAr, hBu, hat_m, hat_a, hat_b, hS.forget, hhz, hk0, hk1⟩ c9 (by omega) h_s0 (lv_sub hl [3, 4, 5, 6, 7, 8, 9, 10, 11, 2, 1, 0] rfl) hroom (next j h_j)
          · skip
            refine va_forget (fun q9 h9 => hS.2.2 q9 h9) ?_
            exact c_arc cx hk ⟨hv, hj, hW, hM, hAr, hBu, hat_m, hat_a, hat_b, hS.forget, hhz, hk0, hk1⟩ c8 (by omega) h_s0 (lv_sub hl [3, 4, 5, 6, 7, 8, 9, 10, 11, 2, 1, 0] rfl) hroom (next j h_j)
      · skip
        refine va_forget (fun q9 h9 => hS.2.2 q9 h9) ?_
        exact c_bud cx hk ⟨hv, hj, hW, hM, hAr, hBu, hat_m, hat_a, hat_b, hS.forget, hhz, hk0, hk1⟩ c7 h_s0 (lv_sub hl [3, 4, 5, 6, 7, 8, 9, 10, 11, 2, 1, 0] rfl) hroom (next j h_j)
    · skip
      refine va_forget (fun q9 h9 => hS.2.2 q9 h9) ?_
      exact c_alert cx hk ⟨hv, hj, hW, hM, hAr, hBu, hat_m, hat_a, hat_b, hS.forget, hhz, hk0, hk1⟩ c6 h_s0 (lv_sub hl [3, 4, 5, 6, 7, 8, 9, 10, 11, 2, 1, 0] rfl) hroom (next j h_j)
  · skip
    refine va_forget (fun q9 h9 => hS.2.2 q9 h9) ?_
    exact c_line cx hk ⟨hv, hj, hW, hM, hAr, hBu, hat_m, hat_a, hat_b, hS.forget, hhz, hk0, hk1⟩ (by omega) h_s0 (lv_sub hl [3, 4, 5, 6, 7, 8, 9, 10, 11, 2, 1, 0] rfl) hroom (next j h_j)
end CW
