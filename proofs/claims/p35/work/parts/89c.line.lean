section CA
variable {p : Program} {l : Launch} {e : Env} {s : State} {m : MethodId} {below : List Frame} {meth : Method} {c : Code} {b L : Nat} {xs : Nat → Int32} {G : QG} {es zm za zb hz : Nat} {A : Nat → Prop}
set_option maxHeartbeats 4000000 in
set_option maxRecDepth 100000 in
theorem c_line (cx : lC p l s m meth c b L xs G es zm za zb hz A) {k : Nat} (hk : k < 60) {σ ad : QSt} {mf af bf : Nat → Int32} {H : Heap} {ls : Array Slot} (hI : lS G es A zm za zb hz s k σ ad mf af bf H) {j s0 : Nat} (hj6 : j < 6) (hs0 : s0 < 2) (hl : lv_has ls 16 [(0, .ref (b)), (1, .ref (ad 0 0)), (2, .ref (zm)), (3, .ref (za)), (4, .ref (zb)), (5, .int (nI (σ 0 0))), (6, .int (nI (σ 0 2))), (7, .int (nI 1)), (8, .int (nI k)), (9, .int (nI (12 * k))), (10, .int (nI j)), (11, .int (nI s0))]) {cells slots : Nat} {Q : State → Prop} (hroom : cells + 40 ≤ 600192 ∧ slots + 15000 ≤ 7296936)
    (next : ∀ (τ ad2 : QSt) (mg ag bg : Nat → Int32) (H2 : Heap) (ls2 : Array Slot), lS G es A zm za zb hz s (k + 1) τ ad2 mg ag bg H2 → lv_has ls2 16 [(0, .ref (b)), (1, .ref (ad2 0 0)), (2, .ref (zm)), (3, .ref (za)), (4, .ref (zb)), (5, .int (nI (τ 0 0))), (6, .int (nI (τ 0 2))), (7, .int (nI 1)), (8, .int (nI k)), (10, .int (nI j))] → W p l e room_1 s m #[Value.ref b] below meth c H2 [] (cells + 40) (slots + 15000) Q (F0 m 836 ls2 [])) : W p l e room_1 s m #[Value.ref b] below meth c H [] cells slots Q (F0 m 107 ls []) := by
  obtain ⟨hx, hb, hml, hown, hts, hlocks, hst, hX, hbl, hC, hZ0, hzT, hzN, hL, hD⟩ := cx
  obtain ⟨hv, hj, hW, hM, hAr, hBu, hat_m, hat_a, hat_b, hS, hhz, hk0, hk1⟩ := hI
  have hF := hv.1.wf
  have hB := hF.1
  have hn := hF.n
  refine lv_bipush (v := nI 7) hx hb dL_law_107 (by decide) ?_
  refine lv_iload hx hb dL_law_109 (lv_at hl 5 rfl) ?_
  refine lv_imul hx hb dL_law_111 ?_
  refine q_ti (pk_mul 7 (σ 0 0)) ?_
  refine lv_istore (lv' := [(12, .int (nI (7 * (σ 0 0)))), (0, .ref (b)), (1, .ref (ad 0 0)), (2, .ref (zm)), (3, .ref (za)), (4, .ref (zb)), (5, .int (nI (σ 0 0))), (6, .int (nI (σ 0 2))), (7, .int (nI 1)), (8, .int (nI k)), (9, .int (nI (12 * k))), (10, .int (nI j)), (11, .int (nI s0))]) hx hb dL_law_112 hl (by decide) rfl (fun ls hl => ?_)
  refine lv_aload_n hx hb dL_law_114 rfl (lv_at hl 3 rfl) ?_
  refine lv_iload hx hb dL_law_115 (lv_at hl 0 rfl) ?_
  refine lv_iload hx hb dL_law_117 (lv_at hl 12 rfl) ?_
  refine q_iast hx hb hC.1 hat_m hD.2.1.1 hS 1 rfl (vp_in_nI (n := (7 * (σ 0 0))) (by omega) (by omega)) dL_law_119 (fun H1 locs hat9 hsz hoq hS => ?_)
  rw [l_idx (by omega)] at hat9
  obtain ⟨g0, e_g0⟩ : ∃ g9, g9 = upd mf (7 * (σ 0 0)) (nI s0) := ⟨_, rfl⟩
  rw [← e_g0] at hat9
  have hat_a := hat_a.kept (hoq _ (by have := hD.2.2.2.1; omega))
  have hat_b := hat_b.kept (hoq _ (by have := hD.2.2.2.1; omega))
  have hW := hW.out hD.2.2.1.1 hoq
  have hhz : hz ≤ _ := Nat.le_trans hhz (Nat.le_of_eq hsz.symm)
  have hat_m := hat9
  have vn_g0 : g0 (7 * (σ 0 0)) = nI s0 := by rw [e_g0, pk_us]
  have v0 := vn_g0
  have lo : ∀ j9, j9 < 7 * σ 0 0 → g0 j9 = mf j9 := fun j9 h9 => by rw [e_g0, pk_un (by omega)]
  refine lv_aload_n hx hb dL_law_120 rfl (lv_at hl 3 rfl) ?_
  refine lv_iload hx hb dL_law_121 (lv_at hl 0 rfl) ?_
  refine lv_iconst (v := nI 1) hx hb dL_law_123 (by decide) ?_
  refine lv_iadd hx hb dL_law_124 ?_
  refine q_ti (nI_add (7 * (σ 0 0)) 1) ?_
  refine lv_aload_n hx hb dL_law_125 rfl (lv_at hl 1 rfl) ?_
  refine lv_iload hx hb dL_law_126 (lv_at hl 10 rfl) ?_
  refine lv_iconst (v := nI 2) hx hb dL_law_128 (by decide) ?_
  refine lv_iadd hx hb dL_law_129 ?_
  refine q_ti (nI_add (12 * k) 2) ?_
  refine lv_iconst (v := nI 5) hx hb dL_law_130 (by decide) ?_
  refine q_vE (va_runS (As := [.ref (b), .int (nI ((12 * k) + 2)), .int (nI 5)]) (rest := [.int (nI ((7 * (σ 0 0)) + 1)), .ref (zm)]) ⟨hx, hb, hml, hown, hts⟩ (k_pick l b L xs (12 * k + 2) (5) hL (by omega) (by decide) (by decide)) (va_cwS 3 hts gL_law_L_pick rfl rfl rfl (by decide +kernel) ⟨Nat.le_of_ble_eq_true rfl, Nat.le_of_ble_eq_true rfl⟩) ⟨qXs.blind, qXs.pre (hX.kept (hS.2.1 b hbl (Nat.not_le.mpr hbl))) (Nat.lt_of_lt_of_le hbl hS.1)⟩ rfl rfl hl.1 rfl (lv_room (Nat.le_of_ble_eq_true rfl)) dL_law_131 ⟨by show cells ≤ 600192; omega, by show slots ≤ 7296936; omega⟩) hS (fun _ h => h.elim) (fun x9 locs hx9 hS => ?_)
  obtain ⟨r0, h_r0, rfl⟩ := hx9
  refine q_iast hx hb hC.1 hat_m hD.2.1.1 hS 1 rfl (vp_in_nI (n := ((7 * (σ 0 0)) + 1)) (by omega) (by omega)) dL_law_134 (fun H2 locs hat9 hsz hoq hS => ?_)
  rw [l_idx (by omega)] at hat9
  obtain ⟨g1, e_g1⟩ : ∃ g9, g9 = upd g0 ((7 * (σ 0 0)) + 1) (nI r0) := ⟨_, rfl⟩
  rw [← e_g1] at hat9
  have hat_a := hat_a.kept (hoq _ (by have := hD.2.2.2.1; omega))
  have hat_b := hat_b.kept (hoq _ (by have := hD.2.2.2.1; omega))
  have hW := hW.out hD.2.2.1.1 hoq
  have hhz : hz ≤ _ := Nat.le_trans hhz (Nat.le_of_eq hsz.symm)
  have hat_m := hat9
  have v0 : g1 ((7 * σ 0 0)) = nI s0 := by rw [e_g1, pk_un (by omega)]; exact v0
  have vn_g1 : g1 ((7 * (σ 0 0)) + 1) = nI r0 := by rw [e_g1, pk_us]
  have lo : ∀ j9, j9 < 7 * σ 0 0 → g1 j9 = mf j9 := fun j9 h9 => by rw [e_g1, pk_un (by omega)]; exact lo j9 h9
  have v1 := vn_g1
  refine lv_iconst (v := nI 0) hx hb dL_law_135 (by decide) ?_
  refine lv_istore (lv' := [(13, .int (nI 0)), (12, .int (nI (7 * (σ 0 0)))), (0, .ref (b)), (1, .ref (ad 0 0)), (2, .ref (zm)), (3, .ref (za)), (4, .ref (zb)), (5, .int (nI (σ 0 0))), (6, .int (nI (σ 0 2))), (7, .int (nI 1)), (8, .int (nI k)), (9, .int (nI (12 * k))), (10, .int (nI j)), (11, .int (nI s0))]) hx hb dL_law_136 hl (by decide) rfl (fun ls hl => ?_)
  refine q_up 3 (fun z H locs ls => (qLW G es A σ ad H ∧ hz ≤ H.size) ∧ va_S (lF s) s.heap H locs ∧ ∃ (gw : Nat → Int32), ((∀ j9, j9 < 7 * σ 0 0 → gw j9 = mf j9) ∧ gw (7 * σ 0 0) = nI s0 ∧ gw (7 * σ 0 0 + 1) = nI r0 ∧ ∀ w9, w9 < z → ∃ x9, x9 < 100 ∧ gw (7 * σ 0 0 + 2 + w9) = nI x9) ∧ va_at G.1 vwCl (zm, .inl (G.2 1, 1400, .inl gw)) H ∧ va_at G.1 vwCl (za, .inl (G.2 1, 49, .inl af)) H ∧ va_at G.1 vwCl (zb, .inl (G.2 1, 4, .inl bf)) H ∧ lv_has ls 16 [(12, .int (nI (7 * (σ 0 0)))), (0, .ref (b)), (1, .ref (ad 0 0)), (2, .ref (zm)), (3, .ref (za)), (4, .ref (zb)), (5, .int (nI (σ 0 0))), (6, .int (nI (σ 0 2))), (7, .int (nI 1)), (8, .int (nI k)), (9, .int (nI (12 * k))), (10, .int (nI j)), (11, .int (nI s0)), (13, .int (nI z))]) ?_ ?_ (i0 := 0) (Nat.zero_le _) ⟨⟨hW, hhz⟩, hS, g1, ⟨lo, v0, v1, fun _ y9 => absurd y9 (Nat.not_lt_zero _)⟩, hat_m, hat_a, hat_b, lv_sub hl [1, 2, 3, 4, 5, 6, 7, 8, 9, 10, 11, 12, 13, 0] rfl⟩
  · rintro H3 locs ls ⟨⟨hW, hhz⟩, hS, gw, e_gw, hat_m, hat_a, hat_b, hl⟩
    refine lv_iload hx hb dL_law_138 (lv_at hl 13 rfl) ?_
    refine lv_iconst (v := nI 3) hx hb dL_law_140 (by decide) ?_
    refine q_ge (tgt := 189) hx hb (by decide) (by decide) dL_law_141 (by decide) (fun gq1 => ?_) (fun gq1 => (by omega))
    obtain ⟨lo, v0, v1, vw⟩ := e_gw
    obtain ⟨x1, hx1, v2⟩ := vw 0 (by decide)
    obtain ⟨x2, hx2, v3⟩ := vw 1 (by decide)
    obtain ⟨x3, hx3, v4⟩ := vw 2 (by decide)
    have v2 : gw (7 * σ 0 0 + 2) = nI x1 := v2
    have v3 : gw (7 * σ 0 0 + 3) = nI x2 := v3
    have v4 : gw (7 * σ 0 0 + 4) = nI x3 := v4
    refine lv_aload_n hx hb dL_law_189 rfl (lv_at hl 3 rfl) ?_
    refine lv_iload hx hb dL_law_190 (lv_at hl 0 rfl) ?_
    refine lv_iconst (v := nI 5) hx hb dL_law_192 (by decide) ?_
    refine lv_iadd hx hb dL_law_193 ?_
    refine q_ti (nI_add (7 * (σ 0 0)) 5) ?_
    refine lv_iconst (v := nI 1) hx hb dL_law_194 (by decide) ?_
    refine lv_aload_n hx hb dL_law_195 rfl (lv_at hl 1 rfl) ?_
    refine lv_iload hx hb dL_law_196 (lv_at hl 10 rfl) ?_
    refine lv_bipush (v := nI 7) hx hb dL_law_198 (by decide) ?_
    refine lv_iadd hx hb dL_law_200 ?_
    refine q_ti (nI_add (12 * k) 7) ?_
    refine lv_bipush (v := nI 99) hx hb dL_law_201 (by decide) ?_
    refine q_vE (va_runS (As := [.ref (b), .int (nI ((12 * k) + 7)), .int (nI 99)]) (rest := [.int (nI 1), .int (nI ((7 * (σ 0 0)) + 5)), .ref (zm)]) ⟨hx, hb, hml, hown, hts⟩ (k_pick l b L xs (12 * k + 7) (99) hL (by omega) (by decide) (by decide)) (va_cwS 3 hts gL_law_L_pick rfl rfl rfl (by decide +kernel) ⟨Nat.le_of_ble_eq_true rfl, Nat.le_of_ble_eq_true rfl⟩) ⟨qXs.blind, qXs.pre (hX.kept (hS.2.1 b hbl (Nat.not_le.mpr hbl))) (Nat.lt_of_lt_of_le hbl hS.1)⟩ rfl rfl hl.1 rfl (lv_room (Nat.le_of_ble_eq_true rfl)) dL_law_203 ⟨by show cells ≤ 600192; omega, by show slots ≤ 7296936; omega⟩) hS (fun _ h => h.elim) (fun x9 locs hx9 hS => ?_)
    obtain ⟨jb, h_jb, rfl⟩ := hx9
    refine lv_iadd hx hb dL_law_206 ?_
    refine q_ti (nI_add 1 jb) ?_
    refine q_iast hx hb hC.1 hat_m hD.2.1.1 hS 1 rfl (vp_in_nI (n := ((7 * (σ 0 0)) + 5)) (by omega) (by omega)) dL_law_207 (fun H4 locs hat9 hsz hoq hS => ?_)
    rw [l_idx (by omega)] at hat9
    obtain ⟨g5, e_g5⟩ : ∃ g9, g9 = upd gw ((7 * (σ 0 0)) + 5) (nI (1 + jb)) := ⟨_, rfl⟩
    rw [← e_g5] at hat9
    have hat_a := hat_a.kept (hoq _ (by have := hD.2.2.2.1; omega))
    have hat_b := hat_b.kept (hoq _ (by have := hD.2.2.2.1; omega))
    have hW := hW.out hD.2.2.1.1 hoq
    have hhz : hz ≤ _ := Nat.le_trans hhz (Nat.le_of_eq hsz.symm)
    have hat_m := hat9
    have v0 : g5 (7 * σ 0 0) = nI s0 := by rw [e_g5, pk_un (by omega)]; exact v0
    have v1 : g5 (7 * σ 0 0 + 1) = nI r0 := by rw [e_g5, pk_un (by omega)]; exact v1
    have v2 : g5 (7 * σ 0 0 + 2) = nI x1 := by rw [e_g5, pk_un (by omega)]; exact v2
    have v3 : g5 (7 * σ 0 0 + 3) = nI x2 := by rw [e_g5, pk_un (by omega)]; exact v3
    have v4 : g5 (7 * σ 0 0 + 4) = nI x3 := by rw [e_g5, pk_un (by omega)]; exact v4
    have vn_g5 : g5 ((7 * (σ 0 0)) + 5) = nI (1 + jb) := by rw [e_g5, pk_us]
    have v5 := vn_g5
    have lo : ∀ j9, j9 < 7 * σ 0 0 → g5 j9 = mf j9 := fun j9 h9 => by rw [e_g5, pk_un (by omega)]; exact lo j9 h9
    refine lv_aload_n hx hb dL_law_208 rfl (lv_at hl 3 rfl) ?_
    refine lv_iload hx hb dL_law_209 (lv_at hl 0 rfl) ?_
    refine lv_bipush (v := nI 6) hx hb dL_law_211 (by decide) ?_
    refine lv_iadd hx hb dL_law_213 ?_
    refine q_ti (nI_add (7 * (σ 0 0)) 6) ?_
    refine lv_aload_n hx hb dL_law_214 rfl (lv_at hl 2 rfl) ?_
    refine q_v (va_runV (As := []) (rest := [.int (nI ((7 * (σ 0 0)) + 6)), .ref (zm)]) ⟨hx, hb, hml, hown, hts⟩ (m_tick l G es A σ ad hF) (cwV 0 hts gL_law_X7_tick rfl rfl rfl (by decide +kernel) ⟨Nat.le_of_ble_eq_true rfl, Nat.le_of_ble_eq_true rfl⟩) ⟨qR.blind, qrecv hC (hW.to qLV0) rfl, qR.pre hC hW⟩ rfl rfl hl.1 rfl (lv_room (Nat.le_of_ble_eq_true rfl)) dL_law_215 ⟨by show cells ≤ 600192; omega, by show slots ≤ 7296936; omega⟩) hS (fun _ h => h.elim) (fun locs hS => ?_)
    refine q_iast hx hb hC.1 hat_m hD.2.1.1 hS 1 rfl (vp_in_nI (n := ((7 * (σ 0 0)) + 6)) (by omega) (by omega)) dL_law_218 (fun H5 locs hat9 hsz hoq hS => ?_)
    rw [l_idx (by omega)] at hat9
    obtain ⟨g6, e_g6⟩ : ∃ g9, g9 = upd g5 ((7 * (σ 0 0)) + 6) (nI (σ 1 0)) := ⟨_, rfl⟩
    rw [← e_g6] at hat9
    have hat_a := hat_a.kept (hoq _ (by have := hD.2.2.2.1; omega))
    have hat_b := hat_b.kept (hoq _ (by have := hD.2.2.2.1; omega))
    have hW := hW.out hD.2.2.1.1 hoq
    have hhz : hz ≤ _ := Nat.le_trans hhz (Nat.le_of_eq hsz.symm)
    have hat_m := hat9
    have v0 : g6 (7 * σ 0 0) = nI s0 := by rw [e_g6, pk_un (by omega)]; exact v0
    have v1 : g6 (7 * σ 0 0 + 1) = nI r0 := by rw [e_g6, pk_un (by omega)]; exact v1
    have v2 : g6 (7 * σ 0 0 + 2) = nI x1 := by rw [e_g6, pk_un (by omega)]; exact v2
    have v3 : g6 (7 * σ 0 0 + 3) = nI x2 := by rw [e_g6, pk_un (by omega)]; exact v3
    have v4 : g6 (7 * σ 0 0 + 4) = nI x3 := by rw [e_g6, pk_un (by omega)]; exact v4
    have v5 : g6 (7 * σ 0 0 + 5) = nI (1 + jb) := by rw [e_g6, pk_un (by omega)]; exact v5
    have vn_g6 : g6 ((7 * (σ 0 0)) + 6) = nI (σ 1 0) := by rw [e_g6, pk_us]
    have v6 := vn_g6
    have lo : ∀ j9, j9 < 7 * σ 0 0 → g6 j9 = mf j9 := fun j9 h9 => by rw [e_g6, pk_un (by omega)]; exact lo j9 h9
    refine lv_aload_n hx hb dL_law_219 rfl (lv_at hl 2 rfl) ?_
    refine lv_aload_n hx hb dL_law_220 rfl (lv_at hl 3 rfl) ?_
    refine lv_iload hx hb dL_law_221 (lv_at hl 0 rfl) ?_
    refine r_iald hx hb hC.1 hat_m 1 rfl (i := (7 * (σ 0 0))) (by omega) (by decide) (v := nI s0) v0 dL_law_223 ?_
    refine lv_aload_n hx hb dL_law_224 rfl (lv_at hl 3 rfl) ?_
    refine lv_iload hx hb dL_law_225 (lv_at hl 0 rfl) ?_
    refine lv_iconst (v := nI 1) hx hb dL_law_227 (by decide) ?_
    refine lv_iadd hx hb dL_law_228 ?_
    refine q_ti (nI_add (7 * (σ 0 0)) 1) ?_
    refine r_iald hx hb hC.1 hat_m 1 rfl (i := ((7 * (σ 0 0)) + 1)) (by omega) (by decide) (v := nI r0) v1 dL_law_229 ?_
    refine lv_aload_n hx hb dL_law_230 rfl (lv_at hl 3 rfl) ?_
    refine lv_iload hx hb dL_law_231 (lv_at hl 0 rfl) ?_
    refine lv_iconst (v := nI 2) hx hb dL_law_233 (by decide) ?_
    refine lv_iadd hx hb dL_law_234 ?_
    refine q_ti (nI_add (7 * (σ 0 0)) 2) ?_
    refine r_iald hx hb hC.1 hat_m 1 rfl (i := ((7 * (σ 0 0)) + 2)) (by omega) (by decide) (v := nI x1) v2 dL_law_235 ?_
    refine lv_aload_n hx hb dL_law_236 rfl (lv_at hl 3 rfl) ?_
    refine lv_iload hx hb dL_law_237 (lv_at hl 0 rfl) ?_
    refine lv_iconst (v := nI 3) hx hb dL_law_239 (by decide) ?_
    refine lv_iadd hx hb dL_law_240 ?_
    refine q_ti (nI_add (7 * (σ 0 0)) 3) ?_
    refine r_iald hx hb hC.1 hat_m 1 rfl (i := ((7 * (σ 0 0)) + 3)) (by omega) (by decide) (v := nI x2) v3 dL_law_241 ?_
    refine lv_aload_n hx hb dL_law_242 rfl (lv_at hl 3 rfl) ?_
    refine lv_iload hx hb dL_law_243 (lv_at hl 0 rfl) ?_
    refine lv_iconst (v := nI 4) hx hb dL_law_245 (by decide) ?_
    refine lv_iadd hx hb dL_law_246 ?_
    refine q_ti (nI_add (7 * (σ 0 0)) 4) ?_
    refine r_iald hx hb hC.1 hat_m 1 rfl (i := ((7 * (σ 0 0)) + 4)) (by omega) (by decide) (v := nI x3) v4 dL_law_247 ?_
    refine lv_aload_n hx hb dL_law_248 rfl (lv_at hl 3 rfl) ?_
    refine lv_iload hx hb dL_law_249 (lv_at hl 0 rfl) ?_
    refine lv_iconst (v := nI 5) hx hb dL_law_251 (by decide) ?_
    refine lv_iadd hx hb dL_law_252 ?_
    refine q_ti (nI_add (7 * (σ 0 0)) 5) ?_
    refine r_iald hx hb hC.1 hat_m 1 rfl (i := ((7 * (σ 0 0)) + 5)) (by omega) (by decide) (v := nI (1 + jb)) v5 dL_law_253 ?_
    obtain ⟨fr9, lo9, hfr9, hlo9, M1⟩ := k_line l hst G es A σ ad hv hj s0 r0 x1 x2 x3 (1 + jb) hs0 (by omega) hx1 hx2 hx3 (by omega) (by omega)
    refine q_wv (vx_runSW (As := [.ref (ad 0 0), .int (nI s0), .int (nI r0), .int (nI x1), .int (nI x2), .int (nI x3), .int (nI (1 + jb))]) (rest := []) ⟨hx, hb, hml, hown, hts⟩ M1 (vx_cwSW 7 hts gL_law_L_line rfl rfl rfl (by decide +kernel) ⟨by show fr9 + 1 ≤ 22; omega, by show 8 + (8 + 11) + lo9 ≤ 10938; omega⟩) ⟨qW.blind, qW.pre hC hW (hZ0) hS hD.a (hD.up hhz)⟩ rfl rfl hl.1 rfl (lv_room (Nat.le_of_ble_eq_true rfl)) dL_law_254 ⟨by show cells + 24 ≤ 600192; omega, by show slots + 14000 ≤ 7296936; omega⟩) hS hD.a hD.a (fun H6 locs hP9 hz1 hk hS => ?_)
    obtain ⟨τ, ad2, hN, had, hW⟩ := hP9
    have hhz := Nat.le_trans hhz hz1
    have hat_m := hat_m.kept (hk _ hat_m.lt hD.2.2.1.1)
    have hat_a := hat_a.kept (hk _ hat_a.lt hD.2.2.1.2.1)
    have hat_b := hat_b.kept (hk _ hat_b.lt hD.2.2.1.2.2)
    refine lv_iload hx hb dL_law_257 (lv_at hl 6 rfl) ?_
    refine q_ne (tgt := 266) hx hb (q31 (hB _ _)) (q31 (hB _ _)) dL_law_259 (by decide) (fun gq2 => (by omega)) (fun gq2 => ?_)
    rw [← had] at hl
    refine lv_iconst (v := nI 1) hx hb dL_law_262 (by decide) ?_
    refine lv_goto (tgt := 267) hx hb dL_law_263 (by decide) ?_
    refine lv_istore (lv' := [(7, .int (nI 1)), (12, .int (nI (7 * (σ 0 0)))), (0, .ref (b)), (1, .ref (ad2 0 0)), (2, .ref (zm)), (3, .ref (za)), (4, .ref (zb)), (5, .int (nI (σ 0 0))), (6, .int (nI (σ 0 2))), (8, .int (nI k)), (9, .int (nI (12 * k))), (10, .int (nI j)), (11, .int (nI s0)), (13, .int (nI 3))]) hx hb dL_law_267 hl (by decide) rfl (fun ls hl => ?_)
    refine lv_iinc (v := nI (σ 0 0 + 1)) (lv' := [(5, .int (nI (σ 0 0 + 1))), (7, .int (nI 1)), (12, .int (nI (7 * (σ 0 0)))), (0, .ref (b)), (1, .ref (ad2 0 0)), (2, .ref (zm)), (3, .ref (za)), (4, .ref (zb)), (6, .int (nI (σ 0 2))), (8, .int (nI k)), (9, .int (nI (12 * k))), (10, .int (nI j)), (11, .int (nI s0)), (13, .int (nI 3))]) hx hb dL_law_269 hl (k := 7) rfl (nI_1 (σ 0 0)) (by decide) rfl (fun ls hl => ?_)
    refine lv_goto (tgt := 836) hx hb dL_law_272 (by decide) ?_
    obtain ⟨t1, t2, t3, t4, t5, t6, t7, -⟩ := id hN
    have hl : lv_has ls 16 [(5, .int (nI (τ 0 0))), (7, .int (nI 1)), (12, .int (nI (7 * (σ 0 0)))), (0, .ref (b)), (1, .ref (ad2 0 0)), (2, .ref (zm)), (3, .ref (za)), (4, .ref (zb)), (6, .int (nI (τ 0 2))), (8, .int (nI k)), (9, .int (nI (12 * k))), (10, .int (nI j)), (11, .int (nI s0)), (13, .int (nI 3))] := by rw [t4, t5]; exact hl
    refine va_forget (fun q9 h9 => hS.2.2 q9 h9) ?_
    refine W.widen (k := cells + 40) (n := slots + 15000) (by omega) (by omega) ?_
    exact next τ ad2 g6 af bf _ ls ⟨t1, t2, hW, jM_new hM hN lo v0 v1 v2 v3 v4 v5 v6, jAr_ext hAr t3 t5 (fun _ _ => rfl), (fun i9 h9 => by rw [t7]; exact hBu i9 h9), hat_m, hat_a, hat_b, hS.forget, hhz, by omega, by omega⟩ (lv_sub hl [3, 4, 5, 6, 7, 0, 8, 1, 9, 11] rfl)
  · rintro z H7 locs ls hi_z ⟨⟨hW, hhz⟩, hS, gw, e_gw, hat_m, hat_a, hat_b, hl⟩ ih_z
    refine lv_iload hx hb dL_law_138 (lv_at hl 13 rfl) ?_
    refine lv_iconst (v := nI 3) hx hb dL_law_140 (by decide) ?_
    refine q_ge (tgt := 189) hx hb (by omega) (by decide) dL_law_141 (by decide) (fun gq3 => (by omega)) (fun gq3 => ?_)
    obtain ⟨lo, v0, v1, vw⟩ := e_gw
    refine lv_aload_n hx hb dL_law_144 rfl (lv_at hl 3 rfl) ?_
    refine lv_iload hx hb dL_law_145 (lv_at hl 0 rfl) ?_
    refine lv_iconst (v := nI 2) hx hb dL_law_147 (by decide) ?_
    refine lv_iadd hx hb dL_law_148 ?_
    refine q_ti (nI_add (7 * (σ 0 0)) 2) ?_
    refine lv_iload hx hb dL_law_149 (lv_at hl 13 rfl) ?_
    refine lv_iadd hx hb dL_law_151 ?_
    refine q_ti (nI_add ((7 * (σ 0 0)) + 2) z) ?_
    refine lv_aload_n hx hb dL_law_152 rfl (lv_at hl 1 rfl) ?_
    refine lv_iload hx hb dL_law_153 (lv_at hl 10 rfl) ?_
    refine lv_iconst (v := nI 3) hx hb dL_law_155 (by decide) ?_
    refine lv_iadd hx hb dL_law_156 ?_
    refine q_ti (nI_add (12 * k) 3) ?_
    refine lv_iload hx hb dL_law_157 (lv_at hl 13 rfl) ?_
    refine lv_iadd hx hb dL_law_159 ?_
    refine q_ti (nI_add ((12 * k) + 3) z) ?_
    refine lv_aload_n hx hb dL_law_160 rfl (lv_at hl 1 rfl) ?_
    refine lv_iload hx hb dL_law_161 (lv_at hl 10 rfl) ?_
    refine lv_bipush (v := nI 6) hx hb dL_law_163 (by decide) ?_
    refine lv_iadd hx hb dL_law_165 ?_
    refine q_ti (nI_add (12 * k) 6) ?_
    refine lv_iconst (v := nI 2) hx hb dL_law_166 (by decide) ?_
    refine q_vE (va_runS (As := [.ref (b), .int (nI ((12 * k) + 6)), .int (nI 2)]) (rest := [.int (nI (((12 * k) + 3) + z)), .ref (b), .int (nI (((7 * (σ 0 0)) + 2) + z)), .ref (zm)]) ⟨hx, hb, hml, hown, hts⟩ (k_pick l b L xs (12 * k + 6) (2) hL (by omega) (by decide) (by decide)) (va_cwS 3 hts gL_law_L_pick rfl rfl rfl (by decide +kernel) ⟨Nat.le_of_ble_eq_true rfl, Nat.le_of_ble_eq_true rfl⟩) ⟨qXs.blind, qXs.pre (hX.kept (hS.2.1 b hbl (Nat.not_le.mpr hbl))) (Nat.lt_of_lt_of_le hbl hS.1)⟩ rfl rfl hl.1 rfl (lv_room (Nat.le_of_ble_eq_true rfl)) dL_law_167 ⟨by show cells ≤ 600192; omega, by show slots ≤ 7296936; omega⟩) hS (fun _ h => h.elim) (fun x9 locs hx9 hS => ?_)
    obtain ⟨jq, h_jq, rfl⟩ := hx9
    refine q_ne0 (tgt := 177) hx hb (by omega) dL_law_170 (by decide) (fun gq4 => ?_) (fun gq4 => ?_)
    · skip
      refine lv_bipush (v := nI 12) hx hb dL_law_177 (by decide) ?_
      refine q_vE (va_runS (As := [.ref (b), .int (nI (((12 * k) + 3) + z)), .int (nI 12)]) (rest := [.int (nI (((7 * (σ 0 0)) + 2) + z)), .ref (zm)]) ⟨hx, hb, hml, hown, hts⟩ (k_pick l b L xs (12 * k + 3 + z) (12) hL (by omega) (by decide) (by decide)) (va_cwS 3 hts gL_law_L_pick rfl rfl rfl (by decide +kernel) ⟨Nat.le_of_ble_eq_true rfl, Nat.le_of_ble_eq_true rfl⟩) ⟨qXs.blind, qXs.pre (hX.kept (hS.2.1 b hbl (Nat.not_le.mpr hbl))) (Nat.lt_of_lt_of_le hbl hS.1)⟩ rfl rfl hl.1 rfl (lv_room (Nat.le_of_ble_eq_true rfl)) dL_law_179 ⟨by show cells ≤ 600192; omega, by show slots ≤ 7296936; omega⟩) hS (fun _ h => h.elim) (fun x9 locs hx9 hS => ?_)
      obtain ⟨xw, h_xw, rfl⟩ := hx9
      refine q_iast hx hb hC.1 hat_m hD.2.1.1 hS 1 rfl (vp_in_nI (n := (((7 * (σ 0 0)) + 2) + z)) (by omega) (by omega)) dL_law_182 (fun H8 locs hat9 hsz hoq hS => ?_)
      rw [l_idx (by omega)] at hat9
      obtain ⟨gx, e_gx⟩ : ∃ g9, g9 = upd gw (((7 * (σ 0 0)) + 2) + z) (nI xw) := ⟨_, rfl⟩
      rw [← e_gx] at hat9
      have hat_a := hat_a.kept (hoq _ (by have := hD.2.2.2.1; omega))
      have hat_b := hat_b.kept (hoq _ (by have := hD.2.2.2.1; omega))
      have hW := hW.out hD.2.2.1.1 hoq
      have hhz : hz ≤ _ := Nat.le_trans hhz (Nat.le_of_eq hsz.symm)
      have hat_m := hat9
      have v0 : gx (7 * σ 0 0) = nI s0 := by rw [e_gx, pk_un (by omega)]; exact v0
      have v1 : gx (7 * σ 0 0 + 1) = nI r0 := by rw [e_gx, pk_un (by omega)]; exact v1
      have vn_gx : gx (((7 * (σ 0 0)) + 2) + z) = nI xw := by rw [e_gx, pk_us]
      have hz9 : (∀ j9, j9 < 7 * σ 0 0 → gx j9 = mf j9) ∧ gx (7 * σ 0 0) = nI s0 ∧ gx (7 * σ 0 0 + 1) = nI r0 ∧ ∀ w9, w9 < z + 1 → ∃ x9, x9 < 100 ∧ gx (7 * σ 0 0 + 2 + w9) = nI x9 := by
        refine ⟨fun j9 h9 => by rw [e_gx, pk_un (by omega)]; exact lo j9 h9, v0, v1, fun w9 h9 => ?_⟩
        by_cases c9 : w9 = z
        · rw [c9]; exact ⟨xw, by omega, vn_gx⟩
        · obtain ⟨x9, hx1, hx2⟩ := vw w9 (by omega)
          exact ⟨x9, hx1, by rw [e_gx, pk_un (by omega)]; exact hx2⟩
      refine lv_iinc (v := nI (z + 1)) (lv' := [(13, .int (nI (z + 1))), (12, .int (nI (7 * (σ 0 0)))), (0, .ref (b)), (1, .ref (ad 0 0)), (2, .ref (zm)), (3, .ref (za)), (4, .ref (zb)), (5, .int (nI (σ 0 0))), (6, .int (nI (σ 0 2))), (7, .int (nI 1)), (8, .int (nI k)), (9, .int (nI (12 * k))), (10, .int (nI j)), (11, .int (nI s0))]) hx hb dL_law_183 hl (k := 13) rfl (nI_1 z) (by decide) rfl (fun ls hl => ?_)
      refine lv_goto (tgt := 138) hx hb dL_law_186 (by decide) ?_
      exact ih_z _ locs ls ⟨⟨hW, hhz⟩, hS, gx, hz9, hat_m, hat_a, hat_b, lv_sub hl [1, 2, 3, 4, 5, 6, 7, 8, 9, 10, 11, 12, 13, 0] rfl⟩
    · skip
      refine lv_iconst (v := nI 3) hx hb dL_law_173 (by decide) ?_
      refine lv_goto (tgt := 179) hx hb dL_law_174 (by decide) ?_
      refine q_vE (va_runS (As := [.ref (b), .int (nI (((12 * k) + 3) + z)), .int (nI 3)]) (rest := [.int (nI (((7 * (σ 0 0)) + 2) + z)), .ref (zm)]) ⟨hx, hb, hml, hown, hts⟩ (k_pick l b L xs (12 * k + 3 + z) (3) hL (by omega) (by decide) (by decide)) (va_cwS 3 hts gL_law_L_pick rfl rfl rfl (by decide +kernel) ⟨Nat.le_of_ble_eq_true rfl, Nat.le_of_ble_eq_true rfl⟩) ⟨qXs.blind, qXs.pre (hX.kept (hS.2.1 b hbl (Nat.not_le.mpr hbl))) (Nat.lt_of_lt_of_le hbl hS.1)⟩ rfl rfl hl.1 rfl (lv_room (Nat.le_of_ble_eq_true rfl)) dL_law_179 ⟨by show cells ≤ 600192; omega, by show slots ≤ 7296936; omega⟩) hS (fun _ h => h.elim) (fun x9 locs hx9 hS => ?_)
      obtain ⟨xw, h_xw, rfl⟩ := hx9
      refine q_iast hx hb hC.1 hat_m hD.2.1.1 hS 1 rfl (vp_in_nI (n := (((7 * (σ 0 0)) + 2) + z)) (by omega) (by omega)) dL_law_182 (fun H9 locs hat9 hsz hoq hS => ?_)
      rw [l_idx (by omega)] at hat9
      obtain ⟨gx, e_gx⟩ : ∃ g9, g9 = upd gw (((7 * (σ 0 0)) + 2) + z) (nI xw) := ⟨_, rfl⟩
      rw [← e_gx] at hat9
      have hat_a := hat_a.kept (hoq _ (by have := hD.2.2.2.1; omega))
      have hat_b := hat_b.kept (hoq _ (by have := hD.2.2.2.1; omega))
      have hW := hW.out hD.2.2.1.1 hoq
      have hhz : hz ≤ _ := Nat.le_trans hhz (Nat.le_of_eq hsz.symm)
      have hat_m := hat9
      have v0 : gx (7 * σ 0 0) = nI s0 := by rw [e_gx, pk_un (by omega)]; exact v0
      have v1 : gx (7 * σ 0 0 + 1) = nI r0 := by rw [e_gx, pk_un (by omega)]; exact v1
      have vn_gx : gx (((7 * (σ 0 0)) + 2) + z) = nI xw := by rw [e_gx, pk_us]
      have hz9 : (∀ j9, j9 < 7 * σ 0 0 → gx j9 = mf j9) ∧ gx (7 * σ 0 0) = nI s0 ∧ gx (7 * σ 0 0 + 1) = nI r0 ∧ ∀ w9, w9 < z + 1 → ∃ x9, x9 < 100 ∧ gx (7 * σ 0 0 + 2 + w9) = nI x9 := by
        refine ⟨fun j9 h9 => by rw [e_gx, pk_un (by omega)]; exact lo j9 h9, v0, v1, fun w9 h9 => ?_⟩
        by_cases c9 : w9 = z
        · rw [c9]; exact ⟨xw, by omega, vn_gx⟩
        · obtain ⟨x9, hx1, hx2⟩ := vw w9 (by omega)
          exact ⟨x9, hx1, by rw [e_gx, pk_un (by omega)]; exact hx2⟩
      refine lv_iinc (v := nI (z + 1)) (lv' := [(13, .int (nI (z + 1))), (12, .int (nI (7 * (σ 0 0)))), (0, .ref (b)), (1, .ref (ad 0 0)), (2, .ref (zm)), (3, .ref (za)), (4, .ref (zb)), (5, .int (nI (σ 0 0))), (6, .int (nI (σ 0 2))), (7, .int (nI 1)), (8, .int (nI k)), (9, .int (nI (12 * k))), (10, .int (nI j)), (11, .int (nI s0))]) hx hb dL_law_183 hl (k := 13) rfl (nI_1 z) (by decide) rfl (fun ls hl => ?_)
      refine lv_goto (tgt := 138) hx hb dL_law_186 (by decide) ?_
      exact ih_z _ locs ls ⟨⟨hW, hhz⟩, hS, gx, hz9, hat_m, hat_a, hat_b, lv_sub hl [1, 2, 3, 4, 5, 6, 7, 8, 9, 10, 11, 12, 13, 0] rfl⟩
set_option maxHeartbeats 4000000 in
set_option maxRecDepth 100000 in
theorem c_alert (cx : lC p l s m meth c b L xs G es zm za zb hz A) {k : Nat} (hk : k < 60) {σ ad : QSt} {mf af bf : Nat → Int32} {H : Heap} {ls : Array Slot} (hI : lS G es A zm za zb hz s k σ ad mf af bf H) {j s0 : Nat} (hj6 : j = 6) (hs0 : s0 < 2) (hl : lv_has ls 16 [(0, .ref (b)), (1, .ref (ad 0 0)), (2, .ref (zm)), (3, .ref (za)), (4, .ref (zb)), (5, .int (nI (σ 0 0))), (6, .int (nI (σ 0 2))), (7, .int (nI 1)), (8, .int (nI k)), (9, .int (nI (12 * k))), (10, .int (nI j)), (11, .int (nI s0))]) {cells slots : Nat} {Q : State → Prop} (hroom : cells + 40 ≤ 600192 ∧ slots + 15000 ≤ 7296936)
    (next : ∀ (τ ad2 : QSt) (mg ag bg : Nat → Int32) (H2 : Heap) (ls2 : Array Slot), lS G es A zm za zb hz s (k + 1) τ ad2 mg ag bg H2 → lv_has ls2 16 [(0, .ref (b)), (1, .ref (ad2 0 0)), (2, .ref (zm)), (3, .ref (za)), (4, .ref (zb)), (5, .int (nI (τ 0 0))), (6, .int (nI (τ 0 2))), (7, .int (nI 1)), (8, .int (nI k)), (10, .int (nI j))] → W p l e room_1 s m #[Value.ref b] below meth c H2 [] (cells + 40) (slots + 15000) Q (F0 m 836 ls2 [])) : W p l e room_1 s m #[Value.ref b] below meth c H [] cells slots Q (F0 m 282 ls []) := by
  obtain ⟨hx, hb, hml, hown, hts, hlocks, hst, hX, hbl, hC, hZ0, hzT, hzN, hL, hD⟩ := cx
  obtain ⟨hv, hj, hW, hM, hAr, hBu, hat_m, hat_a, hat_b, hS, hhz, hk0, hk1⟩ := hI
  have hF := hv.1.wf
  have hB := hF.1
  have hn := hF.n
  have hroom2 := hroom
  refine lv_bipush (v := nI 7) hx hb dL_law_282 (by decide) ?_
  refine lv_iload hx hb dL_law_284 (lv_at hl 6 rfl) ?_
  refine lv_imul hx hb dL_law_286 ?_
  refine q_ti (pk_mul 7 (σ 0 2)) ?_
  refine lv_istore (lv' := [(12, .int (nI (7 * (σ 0 2)))), (0, .ref (b)), (1, .ref (ad 0 0)), (2, .ref (zm)), (3, .ref (za)), (4, .ref (zb)), (5, .int (nI (σ 0 0))), (6, .int (nI (σ 0 2))), (7, .int (nI 1)), (8, .int (nI k)), (9, .int (nI (12 * k))), (10, .int (nI j)), (11, .int (nI s0))]) hx hb dL_law_287 hl (by decide) rfl (fun ls hl => ?_)
  refine lv_aload_n hx hb dL_law_289 rfl (lv_at hl 4 rfl) ?_
  refine lv_iload hx hb dL_law_290 (lv_at hl 0 rfl) ?_
  refine lv_iload hx hb dL_law_292 (lv_at hl 12 rfl) ?_
  refine q_iast hx hb hC.1 hat_a hD.2.1.2.1 hS 1 rfl (vp_in_nI (n := (7 * (σ 0 2))) (by omega) (by omega)) dL_law_294 (fun H1 locs hat9 hsz hoq hS => ?_)
  rw [l_idx (by omega)] at hat9
  obtain ⟨g0, e_g0⟩ : ∃ g9, g9 = upd af (7 * (σ 0 2)) (nI s0) := ⟨_, rfl⟩
  rw [← e_g0] at hat9
  have hat_m := hat_m.kept (hoq _ (by have := hD.2.2.2.1; omega))
  have hat_b := hat_b.kept (hoq _ (by have := hD.2.2.2.1; omega))
  have hW := hW.out hD.2.2.1.2.1 hoq
  have hhz : hz ≤ _ := Nat.le_trans hhz (Nat.le_of_eq hsz.symm)
  have hat_a := hat9
  have vn_g0 : g0 (7 * (σ 0 2)) = nI s0 := by rw [e_g0, pk_us]
  have v0 := vn_g0
  have lo : ∀ j9, j9 < 7 * σ 0 2 → g0 j9 = af j9 := fun j9 h9 => by rw [e_g0, pk_un (by omega)]
  refine lv_aload_n hx hb dL_law_295 rfl (lv_at hl 4 rfl) ?_
  refine lv_iload hx hb dL_law_296 (lv_at hl 0 rfl) ?_
  refine lv_iconst (v := nI 1) hx hb dL_law_298 (by decide) ?_
  refine lv_iadd hx hb dL_law_299 ?_
  refine q_ti (nI_add (7 * (σ 0 2)) 1) ?_
  refine lv_aload_n hx hb dL_law_300 rfl (lv_at hl 1 rfl) ?_
  refine lv_iload hx hb dL_law_301 (lv_at hl 10 rfl) ?_
  refine lv_iconst (v := nI 2) hx hb dL_law_303 (by decide) ?_
  refine lv_iadd hx hb dL_law_304 ?_
  refine q_ti (nI_add (12 * k) 2) ?_
  refine lv_iconst (v := nI 4) hx hb dL_law_305 (by decide) ?_
  refine q_vE (va_runS (As := [.ref (b), .int (nI ((12 * k) + 2)), .int (nI 4)]) (rest := [.int (nI ((7 * (σ 0 2)) + 1)), .ref (za)]) ⟨hx, hb, hml, hown, hts⟩ (k_pick l b L xs (12 * k + 2) (4) hL (by omega) (by decide) (by decide)) (va_cwS 3 hts gL_law_L_pick rfl rfl rfl (by decide +kernel) ⟨Nat.le_of_ble_eq_true rfl, Nat.le_of_ble_eq_true rfl⟩) ⟨qXs.blind, qXs.pre (hX.kept (hS.2.1 b hbl (Nat.not_le.mpr hbl))) (Nat.lt_of_lt_of_le hbl hS.1)⟩ rfl rfl hl.1 rfl (lv_room (Nat.le_of_ble_eq_true rfl)) dL_law_306 ⟨by show cells ≤ 600192; omega, by show slots ≤ 7296936; omega⟩) hS (fun _ h => h.elim) (fun x9 locs hx9 hS => ?_)
  obtain ⟨r0, h_r0, rfl⟩ := hx9
  refine q_iast hx hb hC.1 hat_a hD.2.1.2.1 hS 1 rfl (vp_in_nI (n := ((7 * (σ 0 2)) + 1)) (by omega) (by omega)) dL_law_309 (fun H2 locs hat9 hsz hoq hS => ?_)
  rw [l_idx (by omega)] at hat9
  obtain ⟨g1, e_g1⟩ : ∃ g9, g9 = upd g0 ((7 * (σ 0 2)) + 1) (nI r0) := ⟨_, rfl⟩
  rw [← e_g1] at hat9
  have hat_m := hat_m.kept (hoq _ (by have := hD.2.2.2.1; omega))
  have hat_b := hat_b.kept (hoq _ (by have := hD.2.2.2.1; omega))
  have hW := hW.out hD.2.2.1.2.1 hoq
  have hhz : hz ≤ _ := Nat.le_trans hhz (Nat.le_of_eq hsz.symm)
  have hat_a := hat9
  have v0 : g1 (7 * σ 0 2) = nI s0 := by rw [e_g1, pk_un (by omega)]; exact v0
  have vn_g1 : g1 ((7 * (σ 0 2)) + 1) = nI r0 := by rw [e_g1, pk_us]
  have v1 := vn_g1
  have lo : ∀ j9, j9 < 7 * σ 0 2 → g1 j9 = af j9 := fun j9 h9 => by rw [e_g1, pk_un (by omega)]; exact lo j9 h9
  refine lv_aload_n hx hb dL_law_310 rfl (lv_at hl 4 rfl) ?_
  refine lv_iload hx hb dL_law_311 (lv_at hl 0 rfl) ?_
  refine lv_iconst (v := nI 2) hx hb dL_law_313 (by decide) ?_
  refine lv_iadd hx hb dL_law_314 ?_
  refine q_ti (nI_add (7 * (σ 0 2)) 2) ?_
  refine lv_aload_n hx hb dL_law_315 rfl (lv_at hl 1 rfl) ?_
  refine lv_iload hx hb dL_law_316 (lv_at hl 10 rfl) ?_
  refine lv_iconst (v := nI 3) hx hb dL_law_318 (by decide) ?_
  refine lv_iadd hx hb dL_law_319 ?_
  refine q_ti (nI_add (12 * k) 3) ?_
  refine lv_iconst (v := nI 4) hx hb dL_law_320 (by decide) ?_
  refine q_vE (va_runS (As := [.ref (b), .int (nI ((12 * k) + 3)), .int (nI 4)]) (rest := [.int (nI ((7 * (σ 0 2)) + 2)), .ref (za)]) ⟨hx, hb, hml, hown, hts⟩ (k_pick l b L xs (12 * k + 3) (4) hL (by omega) (by decide) (by decide)) (va_cwS 3 hts gL_law_L_pick rfl rfl rfl (by decide +kernel) ⟨Nat.le_of_ble_eq_true rfl, Nat.le_of_ble_eq_true rfl⟩) ⟨qXs.blind, qXs.pre (hX.kept (hS.2.1 b hbl (Nat.not_le.mpr hbl))) (Nat.lt_of_lt_of_le hbl hS.1)⟩ rfl rfl hl.1 rfl (lv_room (Nat.le_of_ble_eq_true rfl)) dL_law_321 ⟨by show cells ≤ 600192; omega, by show slots ≤ 7296936; omega⟩) hS (fun _ h => h.elim) (fun x9 locs hx9 hS => ?_)
  obtain ⟨P0, h_P0, rfl⟩ := hx9
  refine lv_iconst (v := nI 1) hx hb dL_law_324 (by decide) ?_
  refine lv_isub hx hb dL_law_325 ?_
  refine q_iast hx hb hC.1 hat_a hD.2.1.2.1 hS 1 rfl (vp_in_nI (n := ((7 * (σ 0 2)) + 2)) (by omega) (by omega)) dL_law_326 (fun H3 locs hat9 hsz hoq hS => ?_)
  rw [l_idx (by omega)] at hat9
  obtain ⟨g2, e_g2⟩ : ∃ g9, g9 = upd g1 ((7 * (σ 0 2)) + 2) ((nI P0) - (nI 1)) := ⟨_, rfl⟩
  rw [← e_g2] at hat9
  have hat_m := hat_m.kept (hoq _ (by have := hD.2.2.2.1; omega))
  have hat_b := hat_b.kept (hoq _ (by have := hD.2.2.2.1; omega))
  have hW := hW.out hD.2.2.1.2.1 hoq
  have hhz : hz ≤ _ := Nat.le_trans hhz (Nat.le_of_eq hsz.symm)
  have hat_a := hat9
  have v0 : g2 (7 * σ 0 2) = nI s0 := by rw [e_g2, pk_un (by omega)]; exact v0
  have v1 : g2 (7 * σ 0 2 + 1) = nI r0 := by rw [e_g2, pk_un (by omega)]; exact v1
  have vn_g2 : g2 ((7 * (σ 0 2)) + 2) = (nI P0) - (nI 1) := by rw [e_g2, pk_us]
  have v2 := vn_g2
  have lo : ∀ j9, j9 < 7 * σ 0 2 → g2 j9 = af j9 := fun j9 h9 => by rw [e_g2, pk_un (by omega)]; exact lo j9 h9
  have v2 : g2 (7 * σ 0 2 + 2) = nI P0 - 1 := v2
  refine lv_aload_n hx hb dL_law_327 rfl (lv_at hl 4 rfl) ?_
  refine lv_iload hx hb dL_law_328 (lv_at hl 0 rfl) ?_
  refine lv_iconst (v := nI 3) hx hb dL_law_330 (by decide) ?_
  refine lv_iadd hx hb dL_law_331 ?_
  refine q_ti (nI_add (7 * (σ 0 2)) 3) ?_
  refine lv_aload_n hx hb dL_law_332 rfl (lv_at hl 1 rfl) ?_
  refine lv_iload hx hb dL_law_333 (lv_at hl 10 rfl) ?_
  refine lv_iconst (v := nI 4) hx hb dL_law_335 (by decide) ?_
  refine lv_iadd hx hb dL_law_336 ?_
  refine q_ti (nI_add (12 * k) 4) ?_
  refine lv_iconst (v := nI 4) hx hb dL_law_337 (by decide) ?_
  refine q_vE (va_runS (As := [.ref (b), .int (nI ((12 * k) + 4)), .int (nI 4)]) (rest := [.int (nI ((7 * (σ 0 2)) + 3)), .ref (za)]) ⟨hx, hb, hml, hown, hts⟩ (k_pick l b L xs (12 * k + 4) (4) hL (by omega) (by decide) (by decide)) (va_cwS 3 hts gL_law_L_pick rfl rfl rfl (by decide +kernel) ⟨Nat.le_of_ble_eq_true rfl, Nat.le_of_ble_eq_true rfl⟩) ⟨qXs.blind, qXs.pre (hX.kept (hS.2.1 b hbl (Nat.not_le.mpr hbl))) (Nat.lt_of_lt_of_le hbl hS.1)⟩ rfl rfl hl.1 rfl (lv_room (Nat.le_of_ble_eq_true rfl)) dL_law_338 ⟨by show cells ≤ 600192; omega, by show slots ≤ 7296936; omega⟩) hS (fun _ h => h.elim) (fun x9 locs hx9 hS => ?_)
  obtain ⟨w0, h_w0, rfl⟩ := hx9
  refine q_iast hx hb hC.1 hat_a hD.2.1.2.1 hS 1 rfl (vp_in_nI (n := ((7 * (σ 0 2)) + 3)) (by omega) (by omega)) dL_law_341 (fun H4 locs hat9 hsz hoq hS => ?_)
  rw [l_idx (by omega)] at hat9
  obtain ⟨g3, e_g3⟩ : ∃ g9, g9 = upd g2 ((7 * (σ 0 2)) + 3) (nI w0) := ⟨_, rfl⟩
  rw [← e_g3] at hat9
  have hat_m := hat_m.kept (hoq _ (by have := hD.2.2.2.1; omega))
  have hat_b := hat_b.kept (hoq _ (by have := hD.2.2.2.1; omega))
  have hW := hW.out hD.2.2.1.2.1 hoq
  have hhz : hz ≤ _ := Nat.le_trans hhz (Nat.le_of_eq hsz.symm)
  have hat_a := hat9
  have v0 : g3 (7 * σ 0 2) = nI s0 := by rw [e_g3, pk_un (by omega)]; exact v0
  have v1 : g3 (7 * σ 0 2 + 1) = nI r0 := by rw [e_g3, pk_un (by omega)]; exact v1
  have v2 : g3 (7 * σ 0 2 + 2) = nI P0 - 1 := by rw [e_g3, pk_un (by omega)]; exact v2
  have vn_g3 : g3 ((7 * (σ 0 2)) + 3) = nI w0 := by rw [e_g3, pk_us]
  have v3 := vn_g3
  have lo : ∀ j9, j9 < 7 * σ 0 2 → g3 j9 = af j9 := fun j9 h9 => by rw [e_g3, pk_un (by omega)]; exact lo j9 h9
  refine lv_aload_n hx hb dL_law_342 rfl (lv_at hl 4 rfl) ?_
  refine lv_iload hx hb dL_law_343 (lv_at hl 0 rfl) ?_
  refine lv_iconst (v := nI 4) hx hb dL_law_345 (by decide) ?_
  refine lv_iadd hx hb dL_law_346 ?_
  refine q_ti (nI_add (7 * (σ 0 2)) 4) ?_
  refine lv_iconst (v := nI 1) hx hb dL_law_347 (by decide) ?_
  refine lv_aload_n hx hb dL_law_348 rfl (lv_at hl 1 rfl) ?_
  refine lv_iload hx hb dL_law_349 (lv_at hl 10 rfl) ?_
  refine lv_iconst (v := nI 5) hx hb dL_law_351 (by decide) ?_
  refine lv_iadd hx hb dL_law_352 ?_
  refine q_ti (nI_add (12 * k) 5) ?_
  refine lv_iconst (v := nI 4) hx hb dL_law_353 (by decide) ?_
  refine q_vE (va_runS (As := [.ref (b), .int (nI ((12 * k) + 5)), .int (nI 4)]) (rest := [.int (nI 1), .int (nI ((7 * (σ 0 2)) + 4)), .ref (za)]) ⟨hx, hb, hml, hown, hts⟩ (k_pick l b L xs (12 * k + 5) (4) hL (by omega) (by decide) (by decide)) (va_cwS 3 hts gL_law_L_pick rfl rfl rfl (by decide +kernel) ⟨Nat.le_of_ble_eq_true rfl, Nat.le_of_ble_eq_true rfl⟩) ⟨qXs.blind, qXs.pre (hX.kept (hS.2.1 b hbl (Nat.not_le.mpr hbl))) (Nat.lt_of_lt_of_le hbl hS.1)⟩ rfl rfl hl.1 rfl (lv_room (Nat.le_of_ble_eq_true rfl)) dL_law_354 ⟨by show cells ≤ 600192; omega, by show slots ≤ 7296936; omega⟩) hS (fun _ h => h.elim) (fun x9 locs hx9 hS => ?_)
  obtain ⟨jg, h_jg, rfl⟩ := hx9
  refine lv_iadd hx hb dL_law_357 ?_
  refine q_ti (nI_add 1 jg) ?_
  refine q_iast hx hb hC.1 hat_a hD.2.1.2.1 hS 1 rfl (vp_in_nI (n := ((7 * (σ 0 2)) + 4)) (by omega) (by omega)) dL_law_358 (fun H5 locs hat9 hsz hoq hS => ?_)
  rw [l_idx (by omega)] at hat9
  obtain ⟨g4, e_g4⟩ : ∃ g9, g9 = upd g3 ((7 * (σ 0 2)) + 4) (nI (1 + jg)) := ⟨_, rfl⟩
  rw [← e_g4] at hat9
  have hat_m := hat_m.kept (hoq _ (by have := hD.2.2.2.1; omega))
  have hat_b := hat_b.kept (hoq _ (by have := hD.2.2.2.1; omega))
  have hW := hW.out hD.2.2.1.2.1 hoq
  have hhz : hz ≤ _ := Nat.le_trans hhz (Nat.le_of_eq hsz.symm)
  have hat_a := hat9
  have v0 : g4 (7 * σ 0 2) = nI s0 := by rw [e_g4, pk_un (by omega)]; exact v0
  have v1 : g4 (7 * σ 0 2 + 1) = nI r0 := by rw [e_g4, pk_un (by omega)]; exact v1
  have v2 : g4 (7 * σ 0 2 + 2) = nI P0 - 1 := by rw [e_g4, pk_un (by omega)]; exact v2
  have v3 : g4 (7 * σ 0 2 + 3) = nI w0 := by rw [e_g4, pk_un (by omega)]; exact v3
  have vn_g4 : g4 ((7 * (σ 0 2)) + 4) = nI (1 + jg) := by rw [e_g4, pk_us]
  have v4 := vn_g4
  have lo : ∀ j9, j9 < 7 * σ 0 2 → g4 j9 = af j9 := fun j9 h9 => by rw [e_g4, pk_un (by omega)]; exact lo j9 h9
  refine lv_aload_n hx hb dL_law_359 rfl (lv_at hl 4 rfl) ?_
  refine lv_iload hx hb dL_law_360 (lv_at hl 0 rfl) ?_
  refine lv_iconst (v := nI 5) hx hb dL_law_362 (by decide) ?_
  refine lv_iadd hx hb dL_law_363 ?_
  refine q_ti (nI_add (7 * (σ 0 2)) 5) ?_
  refine lv_iconst (v := nI 1) hx hb dL_law_364 (by decide) ?_
  refine lv_aload_n hx hb dL_law_365 rfl (lv_at hl 1 rfl) ?_
  refine lv_iload hx hb dL_law_366 (lv_at hl 10 rfl) ?_
  refine lv_bipush (v := nI 6) hx hb dL_law_368 (by decide) ?_
  refine lv_iadd hx hb dL_law_370 ?_
  refine q_ti (nI_add (12 * k) 6) ?_
  refine lv_bipush (v := nI 12) hx hb dL_law_371 (by decide) ?_
  refine q_vE (va_runS (As := [.ref (b), .int (nI ((12 * k) + 6)), .int (nI 12)]) (rest := [.int (nI 1), .int (nI ((7 * (σ 0 2)) + 5)), .ref (za)]) ⟨hx, hb, hml, hown, hts⟩ (k_pick l b L xs (12 * k + 6) (12) hL (by omega) (by decide) (by decide)) (va_cwS 3 hts gL_law_L_pick rfl rfl rfl (by decide +kernel) ⟨Nat.le_of_ble_eq_true rfl, Nat.le_of_ble_eq_true rfl⟩) ⟨qXs.blind, qXs.pre (hX.kept (hS.2.1 b hbl (Nat.not_le.mpr hbl))) (Nat.lt_of_lt_of_le hbl hS.1)⟩ rfl rfl hl.1 rfl (lv_room (Nat.le_of_ble_eq_true rfl)) dL_law_373 ⟨by show cells ≤ 600192; omega, by show slots ≤ 7296936; omega⟩) hS (fun _ h => h.elim) (fun x9 locs hx9 hS => ?_)
  obtain ⟨jn, h_jn, rfl⟩ := hx9
  refine lv_iadd hx hb dL_law_376 ?_
  refine q_ti (nI_add 1 jn) ?_
  refine q_iast hx hb hC.1 hat_a hD.2.1.2.1 hS 1 rfl (vp_in_nI (n := ((7 * (σ 0 2)) + 5)) (by omega) (by omega)) dL_law_377 (fun H6 locs hat9 hsz hoq hS => ?_)
  rw [l_idx (by omega)] at hat9
  obtain ⟨g5, e_g5⟩ : ∃ g9, g9 = upd g4 ((7 * (σ 0 2)) + 5) (nI (1 + jn)) := ⟨_, rfl⟩
  rw [← e_g5] at hat9
  have hat_m := hat_m.kept (hoq _ (by have := hD.2.2.2.1; omega))
  have hat_b := hat_b.kept (hoq _ (by have := hD.2.2.2.1; omega))
  have hW := hW.out hD.2.2.1.2.1 hoq
  have hhz : hz ≤ _ := Nat.le_trans hhz (Nat.le_of_eq hsz.symm)
  have hat_a := hat9
  have v0 : g5 (7 * σ 0 2) = nI s0 := by rw [e_g5, pk_un (by omega)]; exact v0
  have v1 : g5 (7 * σ 0 2 + 1) = nI r0 := by rw [e_g5, pk_un (by omega)]; exact v1
  have v2 : g5 (7 * σ 0 2 + 2) = nI P0 - 1 := by rw [e_g5, pk_un (by omega)]; exact v2
  have v3 : g5 (7 * σ 0 2 + 3) = nI w0 := by rw [e_g5, pk_un (by omega)]; exact v3
  have v4 : g5 (7 * σ 0 2 + 4) = nI (1 + jg) := by rw [e_g5, pk_un (by omega)]; exact v4
  have vn_g5 : g5 ((7 * (σ 0 2)) + 5) = nI (1 + jn) := by rw [e_g5, pk_us]
  have v5 := vn_g5
  have lo : ∀ j9, j9 < 7 * σ 0 2 → g5 j9 = af j9 := fun j9 h9 => by rw [e_g5, pk_un (by omega)]; exact lo j9 h9
  refine lv_aload_n hx hb dL_law_378 rfl (lv_at hl 4 rfl) ?_
  refine lv_iload hx hb dL_law_379 (lv_at hl 0 rfl) ?_
  refine lv_bipush (v := nI 6) hx hb dL_law_381 (by decide) ?_
  refine lv_iadd hx hb dL_law_383 ?_
  refine q_ti (nI_add (7 * (σ 0 2)) 6) ?_
  refine lv_aload_n hx hb dL_law_384 rfl (lv_at hl 1 rfl) ?_
  refine lv_iload hx hb dL_law_385 (lv_at hl 10 rfl) ?_
  refine lv_bipush (v := nI 7) hx hb dL_law_387 (by decide) ?_
  refine lv_iadd hx hb dL_law_389 ?_
  refine q_ti (nI_add (12 * k) 7) ?_
  refine lv_bipush (v := nI 6) hx hb dL_law_390 (by decide) ?_
  refine q_vE (va_runS (As := [.ref (b), .int (nI ((12 * k) + 7)), .int (nI 6)]) (rest := [.int (nI ((7 * (σ 0 2)) + 6)), .ref (za)]) ⟨hx, hb, hml, hown, hts⟩ (k_pick l b L xs (12 * k + 7) (6) hL (by omega) (by decide) (by decide)) (va_cwS 3 hts gL_law_L_pick rfl rfl rfl (by decide +kernel) ⟨Nat.le_of_ble_eq_true rfl, Nat.le_of_ble_eq_true rfl⟩) ⟨qXs.blind, qXs.pre (hX.kept (hS.2.1 b hbl (Nat.not_le.mpr hbl))) (Nat.lt_of_lt_of_le hbl hS.1)⟩ rfl rfl hl.1 rfl (lv_room (Nat.le_of_ble_eq_true rfl)) dL_law_392 ⟨by show cells ≤ 600192; omega, by show slots ≤ 7296936; omega⟩) hS (fun _ h => h.elim) (fun x9 locs hx9 hS => ?_)
  obtain ⟨h0, h_h0, rfl⟩ := hx9
  refine q_iast hx hb hC.1 hat_a hD.2.1.2.1 hS 1 rfl (vp_in_nI (n := ((7 * (σ 0 2)) + 6)) (by omega) (by omega)) dL_law_395 (fun H7 locs hat9 hsz hoq hS => ?_)
  rw [l_idx (by omega)] at hat9
  obtain ⟨g6, e_g6⟩ : ∃ g9, g9 = upd g5 ((7 * (σ 0 2)) + 6) (nI h0) := ⟨_, rfl⟩
  rw [← e_g6] at hat9
  have hat_m := hat_m.kept (hoq _ (by have := hD.2.2.2.1; omega))
  have hat_b := hat_b.kept (hoq _ (by have := hD.2.2.2.1; omega))
  have hW := hW.out hD.2.2.1.2.1 hoq
  have hhz : hz ≤ _ := Nat.le_trans hhz (Nat.le_of_eq hsz.symm)
  have hat_a := hat9
  have v0 : g6 (7 * σ 0 2) = nI s0 := by rw [e_g6, pk_un (by omega)]; exact v0
  have v1 : g6 (7 * σ 0 2 + 1) = nI r0 := by rw [e_g6, pk_un (by omega)]; exact v1
  have v2 : g6 (7 * σ 0 2 + 2) = nI P0 - 1 := by rw [e_g6, pk_un (by omega)]; exact v2
  have v3 : g6 (7 * σ 0 2 + 3) = nI w0 := by rw [e_g6, pk_un (by omega)]; exact v3
  have v4 : g6 (7 * σ 0 2 + 4) = nI (1 + jg) := by rw [e_g6, pk_un (by omega)]; exact v4
  have v5 : g6 (7 * σ 0 2 + 5) = nI (1 + jn) := by rw [e_g6, pk_un (by omega)]; exact v5
  have vn_g6 : g6 ((7 * (σ 0 2)) + 6) = nI h0 := by rw [e_g6, pk_us]
  have v6 := vn_g6
  have lo : ∀ j9, j9 < 7 * σ 0 2 → g6 j9 = af j9 := fun j9 h9 => by rw [e_g6, pk_un (by omega)]; exact lo j9 h9
  refine lv_aload_n hx hb dL_law_396 rfl (lv_at hl 2 rfl) ?_
  refine lv_aload_n hx hb dL_law_397 rfl (lv_at hl 4 rfl) ?_
  refine lv_iload hx hb dL_law_398 (lv_at hl 0 rfl) ?_
  have hlo9 := lo
  by_cases h6 : σ 0 2 < 6
  · skip
    refine q_wv (vx_runSW (As := [.ref (ad 0 0), .ref (za), .int (nI (7 * (σ 0 2)))]) (rest := []) ⟨hx, hb, hml, hown, hts⟩ (k_alert l hst G es A σ ad hv hj s0 r0 P0 w0 (1 + jg) (1 + jn) h0 (7 * σ 0 2) za (by omega) (by omega) (by omega) (by omega) (by omega) (by omega) (by omega) (by omega) g6 v0 v1 v2 v3 v4 v5 v6 h6) (vx_cwSW 3 hts gL_law_L_alert rfl rfl rfl (by decide +kernel) ⟨Nat.le_of_ble_eq_true rfl, Nat.le_of_ble_eq_true rfl⟩) ⟨qLg.blind, qLg.pre hC hW (hD.z hZ0 hS) (hD.up hhz) hzT hzN hat_a⟩ rfl rfl hl.1 rfl (lv_room (Nat.le_of_ble_eq_true rfl)) dL_law_400 ⟨by show cells + 24 ≤ 600192; omega, by show slots + 14000 ≤ 7296936; omega⟩) hS hD.a hD.a (fun H8 locs hP9 hz1 hk hS => ?_)
    obtain ⟨ad2, had, hW⟩ := hP9
    have hhz := Nat.le_trans hhz hz1
    have hat_m := hat_m.kept (hk _ hat_m.lt hD.2.2.1.1)
    have hat_a := hat_a.kept (hk _ hat_a.lt hD.2.2.1.2.1)
    have hat_b := hat_b.kept (hk _ hat_b.lt hD.2.2.1.2.2)
    obtain ⟨t1, t2, t3, t4, t5, t6, t7, u0, u1, u2, u3, u4, u5, u6⟩ := jAdd hv hj (s0 := s0) (r0 := r0) (P := P0) (w0 := w0) (g0 := 1 + jg) (n0 := 1 + jn) (h0 := h0) (by omega) (by omega) (by omega) (by omega) (by omega) (by omega) (by omega) h6 (by have := (l_num hv).1; omega)
    generalize qfAa σ s0 r0 P0 w0 (1 + jg) (1 + jn) h0 = τ at hW t1 t2 t3 t4 t5 t6 t7 u0 u1 u2 u3 u4 u5 u6
    refine lv_istore (lv' := [(13, .int (nI (σ 0 2))), (12, .int (nI (7 * (σ 0 2)))), (0, .ref (b)), (1, .ref (ad 0 0)), (2, .ref (zm)), (3, .ref (za)), (4, .ref (zb)), (5, .int (nI (σ 0 0))), (6, .int (nI (σ 0 2))), (7, .int (nI 1)), (8, .int (nI k)), (9, .int (nI (12 * k))), (10, .int (nI j)), (11, .int (nI s0))]) hx hb dL_law_403 hl (by decide) rfl (fun ls hl => ?_)
    refine lv_iload hx hb dL_law_405 (lv_at hl 0 rfl) ?_
    refine lv_iload hx hb dL_law_407 (lv_at hl 8 rfl) ?_
    refine lv_bipush (v := nI 6) hx hb dL_law_409 (by decide) ?_
    refine q_ne (tgt := 420) hx hb (q31 (hB _ _)) (by decide) dL_law_411 (by decide) (fun gq1 => ?_) (fun gq1 => (by omega))
    refine lv_iload hx hb dL_law_420 (lv_at hl 8 rfl) ?_
    refine q_ne (tgt := 429) hx hb (q31 (hB _ _)) (q31 (hB _ _)) dL_law_422 (by decide) (fun gq2 => (by omega)) (fun gq2 => ?_)
    refine lv_iconst (v := nI 1) hx hb dL_law_425 (by decide) ?_
    refine lv_goto (tgt := 430) hx hb dL_law_426 (by decide) ?_
    refine lv_istore (lv' := [(7, .int (nI 1)), (13, .int (nI (σ 0 2))), (12, .int (nI (7 * (σ 0 2)))), (0, .ref (b)), (1, .ref (ad 0 0)), (2, .ref (zm)), (3, .ref (za)), (4, .ref (zb)), (5, .int (nI (σ 0 0))), (6, .int (nI (σ 0 2))), (8, .int (nI k)), (9, .int (nI (12 * k))), (10, .int (nI j)), (11, .int (nI s0))]) hx hb dL_law_430 hl (by decide) rfl (fun ls hl => ?_)
    refine lv_bipush (v := nI 6) hx hb dL_law_432 (by decide) ?_
    refine lv_iload hx hb dL_law_434 (lv_at hl 9 rfl) ?_
    refine lv_iconst (v := nI 1) hx hb dL_law_436 (by decide) ?_
    refine lv_iadd hx hb dL_law_437 ?_
    refine q_ti (nI_add (σ 0 2) 1) ?_
    refine va_mmin hx hb (hml.trans hl.1.symm) hown (hts (.methodLink RL 163 Lib.Math.min.name) (inL0 _ (List.mem_of_getElem? (i := 4) (by decide +kernel)))) (hts (.static Lib.Math.min.name) (inL0 _ (List.mem_of_getElem? (i := 5) (by decide +kernel)))) (hts (.initialized "java/lang/Math") (inL0 _ (List.mem_of_getElem? (i := 6) (by decide +kernel)))) (hts (.code Lib.Math.min.name Lib.Math.min.code 2 (some .int)) (inL0 _ (List.mem_of_getElem? (i := 7) (by decide +kernel)))) (Nat.le_of_ble_eq_true rfl) (Nat.le_of_ble_eq_true rfl) (by show cells + 24 ≤ 600192; omega) (by show slots + 14000 ≤ 7296936; omega) dL_law_438 ?_
    refine q_ti (y := nI (τ 0 2)) (by rw [t5]; exact l_min6 h6) ?_
    rw [← had] at hl
    refine lv_istore (lv' := [(6, .int (nI (τ 0 2))), (7, .int (nI 1)), (13, .int (nI (σ 0 2))), (12, .int (nI (7 * (σ 0 2)))), (0, .ref (b)), (1, .ref (ad2 0 0)), (2, .ref (zm)), (3, .ref (za)), (4, .ref (zb)), (5, .int (nI (σ 0 0))), (8, .int (nI k)), (9, .int (nI (12 * k))), (10, .int (nI j)), (11, .int (nI s0))]) hx hb dL_law_441 hl (by decide) rfl (fun ls hl => ?_)
    refine lv_goto (tgt := 836) hx hb dL_law_443 (by decide) ?_
    have hl : lv_has ls 16 [(6, .int (nI (τ 0 2))), (7, .int (nI 1)), (13, .int (nI (σ 0 2))), (12, .int (nI (7 * (σ 0 2)))), (0, .ref (b)), (1, .ref (ad2 0 0)), (2, .ref (zm)), (3, .ref (za)), (4, .ref (zb)), (5, .int (nI (τ 0 0))), (8, .int (nI k)), (9, .int (nI (12 * k))), (10, .int (nI j)), (11, .int (nI s0))] := by rw [t4]; exact hl
    refine va_forget (fun q9 h9 => hS.2.2 q9 h9) ?_
    refine W.widen (k := cells + 40) (n := slots + 15000) (by omega) (by omega) ?_
    exact next τ ad2 mf g6 bf _ ls ⟨t1, t2, hW, jM_ext hM t3 t4 (fun _ _ => rfl), jAr_new hAr t3 t5 hlo9 u0 u1 u2 u3 u4 u5 u6 v0 v1 v2 v3 v4 v5 v6, (fun i9 h9 => by rw [t7]; exact hBu i9 h9), hat_m, hat_a, hat_b, hS.forget, hhz, by omega, by omega⟩ (lv_sub hl [4, 5, 6, 7, 8, 9, 0, 1, 10, 12] rfl)
  · skip
    refine q_ask (vx_runSW (As := [.ref (ad 0 0), .ref (za), .int (nI (7 * (σ 0 2)))]) (rest := []) ⟨hx, hb, hml, hown, hts⟩ (kx_alert l hst G es A σ ad hv hj s0 r0 P0 w0 (1 + jg) (1 + jn) h0 (7 * σ 0 2) za (by omega) (by omega) (by omega) (by omega) (by omega) (by omega) (by omega) (by omega) g6 v0 v1 v2 v3 v4 v5 v6 (by omega)) (vx_cwSW 3 hts gL_law_L_alert rfl rfl rfl (by decide +kernel) ⟨Nat.le_of_ble_eq_true rfl, Nat.le_of_ble_eq_true rfl⟩) ⟨qLg.blind, qLg.pre hC hW (hD.z hZ0 hS) (hD.up hhz) hzT hzN hat_a⟩ rfl rfl hl.1 rfl (lv_room (Nat.le_of_ble_eq_true rfl)) dL_law_400 ⟨by show cells + 1 ≤ 600192; omega, by show slots + 6 ≤ 7296936; omega⟩) hS hD.a (fun H9 locs hz1 hk hS => ?_)
    have hW := hW.same hk
    have hhz := Nat.le_trans hhz hz1
    have hat_m := hat_m.kept (hk _ hat_m.lt)
    have hat_a := hat_a.kept (hk _ hat_a.lt)
    have hat_b := hat_b.kept (hk _ hat_b.lt)
    refine lv_istore (lv' := [(13, .int (-2003)), (12, .int (nI (7 * (σ 0 2)))), (0, .ref (b)), (1, .ref (ad 0 0)), (2, .ref (zm)), (3, .ref (za)), (4, .ref (zb)), (5, .int (nI (σ 0 0))), (6, .int (nI (σ 0 2))), (7, .int (nI 1)), (8, .int (nI k)), (9, .int (nI (12 * k))), (10, .int (nI j)), (11, .int (nI s0))]) hx hb dL_law_403 hl (by decide) rfl (fun ls hl => ?_)
    refine lv_iload hx hb dL_law_405 (lv_at hl 0 rfl) ?_
    refine lv_iload hx hb dL_law_407 (lv_at hl 8 rfl) ?_
    refine lv_bipush (v := nI 6) hx hb dL_law_409 (by decide) ?_
    refine q_ne (tgt := 420) hx hb (q31 (hB _ _)) (by decide) dL_law_411 (by decide) (fun gq3 => (by omega)) (fun gq3 => ?_)
    refine lv_sipush (v := -2003) hx hb dL_law_414 (by decide) ?_
    refine lv_goto (tgt := 422) hx hb dL_law_417 (by decide) ?_
    refine q_neP (P := True) (tgt := 429) hx hb (iff_of_true rfl trivial) dL_law_422 (by decide) (fun c1 => absurd trivial c1) (fun c1 => ?_)
    refine lv_iconst (v := nI 1) hx hb dL_law_425 (by decide) ?_
    refine lv_goto (tgt := 430) hx hb dL_law_426 (by decide) ?_
    refine lv_istore (lv' := [(7, .int (nI 1)), (13, .int (-2003)), (12, .int (nI (7 * (σ 0 2)))), (0, .ref (b)), (1, .ref (ad 0 0)), (2, .ref (zm)), (3, .ref (za)), (4, .ref (zb)), (5, .int (nI (σ 0 0))), (6, .int (nI (σ 0 2))), (8, .int (nI k)), (9, .int (nI (12 * k))), (10, .int (nI j)), (11, .int (nI s0))]) hx hb dL_law_430 hl (by decide) rfl (fun ls hl => ?_)
    refine lv_bipush (v := nI 6) hx hb dL_law_432 (by decide) ?_
    refine lv_iload hx hb dL_law_434 (lv_at hl 9 rfl) ?_
    refine lv_iconst (v := nI 1) hx hb dL_law_436 (by decide) ?_
    refine lv_iadd hx hb dL_law_437 ?_
    refine q_ti (nI_add (σ 0 2) 1) ?_
    refine va_mmin hx hb (hml.trans hl.1.symm) hown (hts (.methodLink RL 163 Lib.Math.min.name) (inL0 _ (List.mem_of_getElem? (i := 4) (by decide +kernel)))) (hts (.static Lib.Math.min.name) (inL0 _ (List.mem_of_getElem? (i := 5) (by decide +kernel)))) (hts (.initialized "java/lang/Math") (inL0 _ (List.mem_of_getElem? (i := 6) (by decide +kernel)))) (hts (.code Lib.Math.min.name Lib.Math.min.code 2 (some .int)) (inL0 _ (List.mem_of_getElem? (i := 7) (by decide +kernel)))) (Nat.le_of_ble_eq_true rfl) (Nat.le_of_ble_eq_true rfl) (by show cells + 1 ≤ 600192; omega) (by show slots + 6 ≤ 7296936; omega) dL_law_438 ?_
    refine q_ti (y := nI (σ 0 2)) (l_min7 (by omega)) ?_
    refine lv_istore (lv' := [(6, .int (nI (σ 0 2))), (7, .int (nI 1)), (13, .int (-2003)), (12, .int (nI (7 * (σ 0 2)))), (0, .ref (b)), (1, .ref (ad 0 0)), (2, .ref (zm)), (3, .ref (za)), (4, .ref (zb)), (5, .int (nI (σ 0 0))), (8, .int (nI k)), (9, .int (nI (12 * k))), (10, .int (nI j)), (11, .int (nI s0))]) hx hb dL_law_441 hl (by decide) rfl (fun ls hl => ?_)
    refine lv_goto (tgt := 836) hx hb dL_law_443 (by decide) ?_
    refine va_forget (fun q9 h9 => hS.2.2 q9 h9) ?_
    refine W.widen (k := cells + 40) (n := slots + 15000) (by omega) (by omega) ?_
    exact next σ ad mf g6 bf _ ls ⟨hv, hj, hW, hM, jAr_ext hAr (jK.of (fun _ _ _ => rfl)) rfl hlo9, hBu, hat_m, hat_a, hat_b, hS.forget, hhz, by omega, by omega⟩ (lv_sub hl [4, 5, 6, 7, 8, 9, 0, 1, 10, 12] rfl)
end CA
