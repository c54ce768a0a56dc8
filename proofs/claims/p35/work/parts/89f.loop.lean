theorem l_P1 {D : va_G} {cl : List vw_C} {x : Nat × va_E} {H : Heap} (hx : va_at D cl x H) : va_P D cl [x] H := by
  intro k q hk
  match k, hk with
  | 0, hk => cases hk; exact hx
  | k + 1, hk => simp at hk
section CK
variable {p : Program} {l : Launch} {e : Env} {s : State} {m : MethodId} {below : List Frame} {meth : Method} {c : Code} {b L : Nat} {xs : Nat → Int32} {G : QG} {es zm za zb hz : Nat} {A : Nat → Prop}
set_option maxHeartbeats 4000000 in
set_option maxRecDepth 100000 in
theorem c_chk (cx : lC p l s m meth c b L xs G es zm za zb hz A) {k : Nat} (hk : k < 60) {σ ad : QSt} {mf af bf : Nat → Int32} {H : Heap} {ls : Array Slot} (hI : lS G es A zm za zb hz s (k + 1) σ ad mf af bf H) {v : Nat} (hv1 : v ≤ 1) (hl : lv_has ls 16 [(0, .ref (b)), (1, .ref (ad 0 0)), (2, .ref (zm)), (3, .ref (za)), (4, .ref (zb)), (5, .int (nI (σ 0 0))), (6, .int (nI (σ 0 2))), (7, .int (nI 1)), (8, .int (nI k)), (12, .int (nI v))]) {cells slots : Nat} {Q : State → Prop} (hroom : cells + 440 ≤ 600192 ∧ slots + 3720 ≤ 7296936)
    (next : ∀ (H2 : Heap) (ls2 : Array Slot), lS G es A zm za zb hz s (k + 1) σ ad mf af bf H2 → lv_has ls2 16 [(0, .ref (b)), (1, .ref (ad 0 0)), (2, .ref (zm)), (3, .ref (za)), (4, .ref (zb)), (5, .int (nI (σ 0 0))), (6, .int (nI (σ 0 2))), (7, .int (nI 1)), (8, .int (nI (k + 1)))] → W p l e room_1 s m #[Value.ref b] below meth c H2 [] (cells + 440) (slots + 3720) Q (F0 m 60 ls2 [])) : W p l e room_1 s m #[Value.ref b] below meth c H [] cells slots Q (F0 m 850 ls []) := by
  obtain ⟨hx, hb, hml, hown, hts, hlocks, hst, hX, hbl, hC, hZ0, hzT, hzN, hL, hD⟩ := id cx
  obtain ⟨hv, hj, hW, hM, hAr, hBu, hat_m, hat_a, hat_b, hS, hhz, hk0, hk1⟩ := id hI
  have hF := hv.1.wf
  have hB := hF.1
  have hn := hF.n
  refine lv_iload hx hb dL_law_850 (lv_at hl 7 rfl) ?_
  refine q_eq0 (tgt := 907) hx hb (by decide) dL_law_852 (by decide) (fun gq1 => (by omega)) (fun gq1 => ?_)
  refine lv_iload hx hb dL_law_855 (lv_at hl 8 rfl) ?_
  refine lv_iconst (v := nI 4) hx hb dL_law_857 (by decide) ?_
  refine lv_irem hx hb dL_law_858 (by decide) ?_
  refine q_ti (pk_rem (by omega) (by decide) (by decide)) ?_
  refine lv_iconst (v := nI 3) hx hb dL_law_859 (by decide) ?_
  refine q_ne (tgt := 903) hx hb (by omega) (by decide) dL_law_860 (by decide) (fun c3 => ?_) (fun c3 => ?_)
  · skip
    refine lv_iconst (v := nI 1) hx hb dL_law_903 (by decide) ?_
    refine lv_goto (tgt := 908) hx hb dL_law_904 (by decide) ?_
    refine lv_istore (lv' := [(7, .int (nI 1)), (0, .ref (b)), (1, .ref (ad 0 0)), (2, .ref (zm)), (3, .ref (za)), (4, .ref (zb)), (5, .int (nI (σ 0 0))), (6, .int (nI (σ 0 2))), (8, .int (nI k)), (12, .int (nI v))]) hx hb dL_law_908 hl (by decide) rfl (fun ls hl => ?_)
    refine lv_iinc (v := nI (k + 1)) (lv' := [(8, .int (nI (k + 1))), (7, .int (nI 1)), (0, .ref (b)), (1, .ref (ad 0 0)), (2, .ref (zm)), (3, .ref (za)), (4, .ref (zb)), (5, .int (nI (σ 0 0))), (6, .int (nI (σ 0 2))), (12, .int (nI v))]) hx hb dL_law_910 hl (k := 8) rfl (nI_1 k) (by decide) rfl (fun ls hl => ?_)
    refine lv_goto (tgt := 60) hx hb dL_law_913 (by decide) ?_
    refine va_forget (fun q9 h9 => hS.2.2 q9 h9) ?_
    refine W.widen (k := cells + 440) (n := slots + 3720) (by omega) (by omega) ?_
    exact next _ ls ⟨hv, hj, hW, hM, hAr, hBu, hat_m, hat_a, hat_b, hS.forget, hhz, hk0, hk1⟩ (lv_sub hl [2, 3, 4, 5, 6, 7, 8, 1, 0] rfl)
  · skip
    refine lv_aload_n hx hb dL_law_863 rfl (lv_at hl 1 rfl) ?_
    refine lv_aload_n hx hb dL_law_864 rfl (lv_at hl 2 rfl) ?_
    refine lv_iload hx hb dL_law_865 (lv_at hl 5 rfl) ?_
    refine q_ask (va_runS (As := [.ref (ad 0 0), .ref (zm), .int (nI (σ 0 0))]) (rest := []) ⟨hx, hb, hml, hown, hts⟩ (k_arePatterns l hst G es A σ ad hv hj zm mf hM) (va_cwS 3 hts gL_law_L_arePatterns rfl rfl rfl (by decide +kernel) ⟨Nat.le_of_ble_eq_true rfl, Nat.le_of_ble_eq_true rfl⟩) ⟨qLp.blind, qLp.pre hC hW (hD.z hZ0 hS) (hD.up hhz) hzT hzN (l_P1 hat_m)⟩ rfl rfl hl.1 rfl (lv_room (Nat.le_of_ble_eq_true rfl)) dL_law_867 ⟨by show cells + 410 ≤ 600192; omega, by show slots + 3300 ≤ 7296936; omega⟩) hS hD.a (fun H1 locs hz1 hk hS => ?_)
    have hW := hW.same hk
    have hhz := Nat.le_trans hhz hz1
    have hat_m := hat_m.kept (hk _ hat_m.lt)
    have hat_a := hat_a.kept (hk _ hat_a.lt)
    have hat_b := hat_b.kept (hk _ hat_b.lt)
    refine q_eq0 (tgt := 907) hx hb (by decide) dL_law_870 (by decide) (fun gq2 => (by omega)) (fun gq2 => ?_)
    refine lv_aload_n hx hb dL_law_873 rfl (lv_at hl 1 rfl) ?_
    refine lv_aload_n hx hb dL_law_874 rfl (lv_at hl 2 rfl) ?_
    refine lv_aload_n hx hb dL_law_875 rfl (lv_at hl 3 rfl) ?_
    refine lv_iload hx hb dL_law_876 (lv_at hl 5 rfl) ?_
    refine lv_iload hx hb dL_law_878 (lv_at hl 6 rfl) ?_
    refine q_ask (va_runS (As := [.ref (ad 0 0), .ref (zm), .ref (za), .int (nI (σ 0 0)), .int (nI (σ 0 2))]) (rest := []) ⟨hx, hb, hml, hown, hts⟩ (k_areAlerts l hst G es A σ ad hv hj zm za mf af hM hAr) (va_cwS 5 hts gL_law_L_areAlerts rfl rfl rfl (by decide +kernel) ⟨Nat.le_of_ble_eq_true rfl, Nat.le_of_ble_eq_true rfl⟩) ⟨qLp.blind, qLp.pre hC hW (hD.z hZ0 hS) (hD.up hhz) hzT hzN (l_P2 hat_m hat_a)⟩ rfl rfl hl.1 rfl (lv_room (Nat.le_of_ble_eq_true rfl)) dL_law_880 ⟨by show cells + 410 + 10 ≤ 600192; omega, by show slots + 3300 + 300 ≤ 7296936; omega⟩) hS hD.a (fun H2 locs hz1 hk hS => ?_)
    have hW := hW.same hk
    have hhz := Nat.le_trans hhz hz1
    have hat_m := hat_m.kept (hk _ hat_m.lt)
    have hat_a := hat_a.kept (hk _ hat_a.lt)
    have hat_b := hat_b.kept (hk _ hat_b.lt)
    refine q_eq0 (tgt := 907) hx hb (by decide) dL_law_883 (by decide) (fun gq3 => (by omega)) (fun gq3 => ?_)
    refine lv_iload hx hb dL_law_886 (lv_at hl 9 rfl) ?_
    refine q_eq0 (tgt := 903) hx hb (by omega) dL_law_888 (by decide) (fun c2 => ?_) (fun c2 => ?_)
    · skip
      refine lv_iconst (v := nI 1) hx hb dL_law_903 (by decide) ?_
      refine lv_goto (tgt := 908) hx hb dL_law_904 (by decide) ?_
      refine lv_istore (lv' := [(7, .int (nI 1)), (0, .ref (b)), (1, .ref (ad 0 0)), (2, .ref (zm)), (3, .ref (za)), (4, .ref (zb)), (5, .int (nI (σ 0 0))), (6, .int (nI (σ 0 2))), (8, .int (nI k)), (12, .int (nI v))]) hx hb dL_law_908 hl (by decide) rfl (fun ls hl => ?_)
      refine lv_iinc (v := nI (k + 1)) (lv' := [(8, .int (nI (k + 1))), (7, .int (nI 1)), (0, .ref (b)), (1, .ref (ad 0 0)), (2, .ref (zm)), (3, .ref (za)), (4, .ref (zb)), (5, .int (nI (σ 0 0))), (6, .int (nI (σ 0 2))), (12, .int (nI v))]) hx hb dL_law_910 hl (k := 8) rfl (nI_1 k) (by decide) rfl (fun ls hl => ?_)
      refine lv_goto (tgt := 60) hx hb dL_law_913 (by decide) ?_
      refine va_forget (fun q9 h9 => hS.2.2 q9 h9) ?_
      refine W.widen (k := cells + 440) (n := slots + 3720) (by omega) (by omega) ?_
      exact next _ ls ⟨hv, hj, hW, hM, hAr, hBu, hat_m, hat_a, hat_b, hS.forget, hhz, hk0, hk1⟩ (lv_sub hl [2, 3, 4, 5, 6, 7, 8, 1, 0] rfl)
    · skip
      refine lv_aload_n hx hb dL_law_891 rfl (lv_at hl 1 rfl) ?_
      refine lv_aload_n hx hb dL_law_892 rfl (lv_at hl 2 rfl) ?_
      refine lv_aload hx hb dL_law_893 (lv_at hl 4 rfl) ?_
      refine lv_iload hx hb dL_law_895 (lv_at hl 5 rfl) ?_
      refine q_ask (va_runS (As := [.ref (ad 0 0), .ref (zm), .ref (zb), .int (nI (σ 0 0))]) (rest := []) ⟨hx, hb, hml, hown, hts⟩ (k_areBudgets l hst G es A σ ad hv hj zm zb mf bf hM hBu) (va_cwS 4 hts gL_law_L_areBudgets rfl rfl rfl (by decide +kernel) ⟨Nat.le_of_ble_eq_true rfl, Nat.le_of_ble_eq_true rfl⟩) ⟨qLp.blind, qLp.pre hC hW (hD.z hZ0 hS) (hD.up hhz) hzT hzN (l_P2 hat_m hat_b)⟩ rfl rfl hl.1 rfl (lv_room (Nat.le_of_ble_eq_true rfl)) dL_law_897 ⟨by show cells + 410 + 10 + 10 ≤ 600192; omega, by show slots + 3300 + 300 + 100 ≤ 7296936; omega⟩) hS hD.a (fun H3 locs hz1 hk hS => ?_)
      have hW := hW.same hk
      have hhz := Nat.le_trans hhz hz1
      have hat_m := hat_m.kept (hk _ hat_m.lt)
      have hat_a := hat_a.kept (hk _ hat_a.lt)
      have hat_b := hat_b.kept (hk _ hat_b.lt)
      refine q_eq0 (tgt := 907) hx hb (by decide) dL_law_900 (by decide) (fun gq4 => (by omega)) (fun gq4 => ?_)
      refine lv_iconst (v := nI 1) hx hb dL_law_903 (by decide) ?_
      refine lv_goto (tgt := 908) hx hb dL_law_904 (by decide) ?_
      refine lv_istore (lv' := [(7, .int (nI 1)), (0, .ref (b)), (1, .ref (ad 0 0)), (2, .ref (zm)), (3, .ref (za)), (4, .ref (zb)), (5, .int (nI (σ 0 0))), (6, .int (nI (σ 0 2))), (8, .int (nI k)), (12, .int (nI v))]) hx hb dL_law_908 hl (by decide) rfl (fun ls hl => ?_)
      refine lv_iinc (v := nI (k + 1)) (lv' := [(8, .int (nI (k + 1))), (7, .int (nI 1)), (0, .ref (b)), (1, .ref (ad 0 0)), (2, .ref (zm)), (3, .ref (za)), (4, .ref (zb)), (5, .int (nI (σ 0 0))), (6, .int (nI (σ 0 2))), (12, .int (nI v))]) hx hb dL_law_910 hl (k := 8) rfl (nI_1 k) (by decide) rfl (fun ls hl => ?_)
      refine lv_goto (tgt := 60) hx hb dL_law_913 (by decide) ?_
      refine va_forget (fun q9 h9 => hS.2.2 q9 h9) ?_
      refine W.widen (k := cells + 440) (n := slots + 3720) (by omega) (by omega) ?_
      exact next _ ls ⟨hv, hj, hW, hM, hAr, hBu, hat_m, hat_a, hat_b, hS.forget, hhz, hk0, hk1⟩ (lv_sub hl [2, 3, 4, 5, 6, 7, 8, 1, 0] rfl)
set_option maxHeartbeats 4000000 in
set_option maxRecDepth 100000 in
theorem c_check (cx : lC p l s m meth c b L xs G es zm za zb hz A) {k : Nat} (hk : k < 60) {σ ad : QSt} {mf af bf : Nat → Int32} {H : Heap} {ls : Array Slot} (hI : lS G es A zm za zb hz s (k + 1) σ ad mf af bf H) {j : Nat} (hj12 : j < 12) (hl : lv_has ls 16 [(0, .ref (b)), (1, .ref (ad 0 0)), (2, .ref (zm)), (3, .ref (za)), (4, .ref (zb)), (5, .int (nI (σ 0 0))), (6, .int (nI (σ 0 2))), (7, .int (nI 1)), (8, .int (nI k)), (10, .int (nI j))]) {cells slots : Nat} {Q : State → Prop} (hroom : cells + 440 ≤ 600192 ∧ slots + 3720 ≤ 7296936)
    (next : ∀ (H2 : Heap) (ls2 : Array Slot), lS G es A zm za zb hz s (k + 1) σ ad mf af bf H2 → lv_has ls2 16 [(0, .ref (b)), (1, .ref (ad 0 0)), (2, .ref (zm)), (3, .ref (za)), (4, .ref (zb)), (5, .int (nI (σ 0 0))), (6, .int (nI (σ 0 2))), (7, .int (nI 1)), (8, .int (nI (k + 1)))] → W p l e room_1 s m #[Value.ref b] below meth c H2 [] (cells + 440) (slots + 3720) Q (F0 m 60 ls2 [])) : W p l e room_1 s m #[Value.ref b] below meth c H [] cells slots Q (F0 m 836 ls []) := by
  obtain ⟨hx, hb, hml, hown, hts, hlocks, hst, hX, hbl, hC, hZ0, hzT, hzN, hL, hD⟩ := id cx
  obtain ⟨hv, hj, hW, hM, hAr, hBu, hat_m, hat_a, hat_b, hS, hhz, hk0, hk1⟩ := id hI
  have hF := hv.1.wf
  have hB := hF.1
  have hn := hF.n
  refine lv_iload hx hb dL_law_836 (lv_at hl 9 rfl) ?_
  refine lv_bipush (v := nI 6) hx hb dL_law_838 (by decide) ?_
  refine q_eq (tgt := 847) hx hb (by omega) (by decide) dL_law_840 (by decide) (fun c6 => ?_) (fun c6 => ?_)
  · skip
    refine lv_iconst (v := nI 0) hx hb dL_law_847 (by decide) ?_
    refine lv_istore (lv' := [(12, .int (nI 0)), (0, .ref (b)), (1, .ref (ad 0 0)), (2, .ref (zm)), (3, .ref (za)), (4, .ref (zb)), (5, .int (nI (σ 0 0))), (6, .int (nI (σ 0 2))), (7, .int (nI 1)), (8, .int (nI k)), (10, .int (nI j))]) hx hb dL_law_848 hl (by decide) rfl (fun ls hl => ?_)
    exact c_chk cx hk hI (v := 0) (by decide) (lv_sub hl [1, 2, 3, 4, 5, 6, 7, 8, 9, 0] rfl) hroom next
  · skip
    refine lv_iconst (v := nI 1) hx hb dL_law_843 (by decide) ?_
    refine lv_goto (tgt := 848) hx hb dL_law_844 (by decide) ?_
    refine lv_istore (lv' := [(12, .int (nI 1)), (0, .ref (b)), (1, .ref (ad 0 0)), (2, .ref (zm)), (3, .ref (za)), (4, .ref (zb)), (5, .int (nI (σ 0 0))), (6, .int (nI (σ 0 2))), (7, .int (nI 1)), (8, .int (nI k)), (10, .int (nI j))]) hx hb dL_law_848 hl (by decide) rfl (fun ls hl => ?_)
    exact c_chk cx hk hI (v := 1) (by decide) (lv_sub hl [1, 2, 3, 4, 5, 6, 7, 8, 9, 0] rfl) hroom next
set_option maxHeartbeats 4000000 in
set_option maxRecDepth 100000 in
theorem l_loop (cx : lC p l s m meth c b L xs G es zm za zb hz A) {Q : State → Prop} (hend : ∀ (H : Heap) (ls : Array Slot), va_S (lF s) s.heap H [] → lv_has ls 16 [(7, .int (nI 1))] → W p l e room_1 s m #[Value.ref b] below meth c H [] 600192 7296936 Q (F0 m 916 ls [])) :
    ∀ (n k : Nat) (σ ad : QSt) (mf af bf : Nat → Int32) (H : Heap) (ls : Array Slot) (cells slots : Nat), k + n = 60 → cells + 500 * n ≤ 600192 → slots + 19000 * n ≤ 7296936 → lS G es A zm za zb hz s k σ ad mf af bf H → lv_has ls 16 [(0, .ref (b)), (1, .ref (ad 0 0)), (2, .ref (zm)), (3, .ref (za)), (4, .ref (zb)), (5, .int (nI (σ 0 0))), (6, .int (nI (σ 0 2))), (7, .int (nI 1)), (8, .int (nI k))] → W p l e room_1 s m #[Value.ref b] below meth c H [] cells slots Q (F0 m 60 ls []) := by
  intro n
  induction n with
  | zero =>
    intro k σ ad mf af bf H ls cells slots hkn hc1 hc2 hI hl
    have hk60 : k = 60 := by omega
    obtain ⟨hx, hb, hml, hown, hts, hlocks, hst, hX, hbl, hC, hZ0, hzT, hzN, hL, hD⟩ := id cx
    obtain ⟨hv, hj, hW, hM, hAr, hBu, hat_m, hat_a, hat_b, hS, hhz, hk0, hk1⟩ := id hI
    have hF := hv.1.wf
    have hB := hF.1
    have hn := hF.n
    refine lv_iload hx hb dL_law_60 (lv_at hl 8 rfl) ?_
    refine lv_bipush (v := nI 60) hx hb dL_law_62 (by decide) ?_
    refine q_ge (tgt := 916) hx hb (by omega) (by decide) dL_law_64 (by decide) (fun gq1 => ?_) (fun gq1 => (by omega))
    refine W.widen (k := 600192) (n := 7296936) (by omega) (by omega) ?_
    exact hend H ls hS (lv_sub hl [7] rfl)
  | succ n ih =>
    intro k σ ad mf af bf H ls cells slots hkn hc1 hc2 hI hl
    have hk60 : k < 60 := by omega
    obtain ⟨hx, hb, hml, hown, hts, hlocks, hst, hX, hbl, hC, hZ0, hzT, hzN, hL, hD⟩ := id cx
    obtain ⟨hv, hj, hW, hM, hAr, hBu, hat_m, hat_a, hat_b, hS, hhz, hk0, hk1⟩ := id hI
    have hF := hv.1.wf
    have hB := hF.1
    have hn := hF.n
    refine lv_iload hx hb dL_law_60 (lv_at hl 8 rfl) ?_
    refine lv_bipush (v := nI 60) hx hb dL_law_62 (by decide) ?_
    refine q_ge (tgt := 916) hx hb (by omega) (by decide) dL_law_64 (by decide) (fun gq1 => (by omega)) (fun gq1 => ?_)
    refine lv_iload hx hb dL_law_67 (lv_at hl 7 rfl) ?_
    refine q_eq0 (tgt := 916) hx hb (by decide) dL_law_69 (by decide) (fun gq2 => (by omega)) (fun gq2 => ?_)
    refine c_what cx hk60 hI hl (by omega) (fun j hj12 τ ad2 mg ag bg H2 ls2 hI2 hl2 => ?_)
    refine c_check cx hk60 hI2 hj12 hl2 (by omega) (fun H3 ls3 hI3 hl3 => ?_)
    exact ih (k + 1) τ ad2 mg ag bg H3 ls3 _ _ (by omega) (by omega) (by omega) hI3 hl3
end CK
