section CS
variable {p : Program} {l : Launch} {e : Env} {s : State} {m : MethodId} {below : List Frame} {meth : Method} {c : Code} {b L : Nat} {xs : Nat → Int32} {G : QG} {es o1 o2 hz : Nat} {A B : Nat → Prop} {bd : QSt}
set_option maxHeartbeats 4000000 in
set_option maxRecDepth 100000 in
theorem c_addLine (cx : lC p l s m meth c b L xs G es o1 o2 hz A B) {k : Nat} (hk : 8 * k + 8 ≤ L) {σ ρ ad : QSt} {H : Heap} {ls : Array Slot} (hI : lS G es A B bd o1 o2 hz s σ ρ ad H) (hl : lv_has ls 9 [(0, .ref b), (1, .ref (ad 0 0)), (2, .ref (bd 0 0)), (3, .ref o1), (4, .ref o2), (5, .int (nI (8 * k)))]) {cells slots : Nat} {Q : State → Prop} (hroom : cells + 24 ≤ 603072 ∧ slots + 14000 ≤ 7223402)
    (next : ∀ (σ ρ ad : QSt) (H : Heap) (ls : Array Slot), lS G es A B bd o1 o2 hz s σ ρ ad H → lv_has ls 9 [(0, .ref b), (1, .ref (ad 0 0)), (2, .ref (bd 0 0)), (3, .ref o1), (4, .ref o2), (5, .int (nI (8 * k)))] → W p l e room_1 s m #[Value.ref b] below meth c H [] (cells + 24) (slots + 14000) Q (F0 m 1997 ls [])) : W p l e room_1 s m #[Value.ref b] below meth c H [] cells slots Q (F0 m 188 ls []) := by
  obtain ⟨hx, hb, hml, hown, hts, hlocks, hst, hX, hbl, hC, hZ0, hzT, hzN, hL, hD⟩ := cx
  obtain ⟨hv, hR, hw, hW, hrW, ⟨f1, hat1⟩, ⟨f2, hat2⟩, hS, hhz⟩ := hI
  have hF := hv.1.wf
  have hB := hF.1
  have hn := hF.n
  obtain ⟨x1, hx1⟩ : ∃ x, x = xs (8 * k + 1) := ⟨_, rfl⟩
  obtain ⟨x2, hx2⟩ : ∃ x, x = xs (8 * k + 2) := ⟨_, rfl⟩
  obtain ⟨x3, hx3⟩ : ∃ x, x = xs (8 * k + 3) := ⟨_, rfl⟩
  obtain ⟨x4, hx4⟩ : ∃ x, x = xs (8 * k + 4) := ⟨_, rfl⟩
  obtain ⟨x5, hx5⟩ : ∃ x, x = xs (8 * k + 5) := ⟨_, rfl⟩
  obtain ⟨x6, hx6⟩ : ∃ x, x = xs (8 * k + 6) := ⟨_, rfl⟩
  obtain ⟨K, mc, ms, fr, lo, fr2, lo2, σ2, R2, v, hK, hmc, hms, ⟨hr1, hr2, hr3, hr4⟩, hv2, hR2, hw2, hK2, hPv, M1, M2⟩ := lk_addLine (l := l) (G := G) (es := es) (A := A) (B := B) (σ := σ) (ρ := ρ) (ad := ad) (bd := bd) (o1 := o1) (f1 := f1) hst hv hR hw hD.n1 x1 x2 x3 x4 x5 x6
  refine lv_aload_n hx hb dL_law_188 rfl (lv_at hl 1 rfl) ?_
  refine lv_aload_n hx hb dL_law_189 rfl (lv_at hl 0 rfl) ?_
  refine lv_iload hx hb dL_law_190 (lv_at hl 5 rfl) ?_
  refine lv_iconst (v := nI 1) hx hb dL_law_192 (by decide) ?_
  refine lv_iadd hx hb dL_law_193 ?_
  refine q_ti (nI_add (8 * k) 1) ?_
  refine va_sld (i := nI ((8 * k) + 1)) hx hb hX hbl (Nat.not_le.mpr hbl) hS (vp_in_nI (n := 8 * k + 1) (by omega) (by omega)) dL_law_194 ?_
  refine q_ti (y := x1) (by rw [hx1, nI_clamp (by omega)]) ?_
  refine lv_aload_n hx hb dL_law_195 rfl (lv_at hl 0 rfl) ?_
  refine lv_iload hx hb dL_law_196 (lv_at hl 5 rfl) ?_
  refine lv_iconst (v := nI 2) hx hb dL_law_198 (by decide) ?_
  refine lv_iadd hx hb dL_law_199 ?_
  refine q_ti (nI_add (8 * k) 2) ?_
  refine va_sld (i := nI ((8 * k) + 2)) hx hb hX hbl (Nat.not_le.mpr hbl) hS (vp_in_nI (n := 8 * k + 2) (by omega) (by omega)) dL_law_200 ?_
  refine q_ti (y := x2) (by rw [hx2, nI_clamp (by omega)]) ?_
  refine lv_aload_n hx hb dL_law_201 rfl (lv_at hl 0 rfl) ?_
  refine lv_iload hx hb dL_law_202 (lv_at hl 5 rfl) ?_
  refine lv_iconst (v := nI 3) hx hb dL_law_204 (by decide) ?_
  refine lv_iadd hx hb dL_law_205 ?_
  refine q_ti (nI_add (8 * k) 3) ?_
  refine va_sld (i := nI ((8 * k) + 3)) hx hb hX hbl (Nat.not_le.mpr hbl) hS (vp_in_nI (n := 8 * k + 3) (by omega) (by omega)) dL_law_206 ?_
  refine q_ti (y := x3) (by rw [hx3, nI_clamp (by omega)]) ?_
  refine lv_aload_n hx hb dL_law_207 rfl (lv_at hl 0 rfl) ?_
  refine lv_iload hx hb dL_law_208 (lv_at hl 5 rfl) ?_
  refine lv_iconst (v := nI 4) hx hb dL_law_210 (by decide) ?_
  refine lv_iadd hx hb dL_law_211 ?_
  refine q_ti (nI_add (8 * k) 4) ?_
  refine va_sld (i := nI ((8 * k) + 4)) hx hb hX hbl (Nat.not_le.mpr hbl) hS (vp_in_nI (n := 8 * k + 4) (by omega) (by omega)) dL_law_212 ?_
  refine q_ti (y := x4) (by rw [hx4, nI_clamp (by omega)]) ?_
  refine lv_aload_n hx hb dL_law_213 rfl (lv_at hl 0 rfl) ?_
  refine lv_iload hx hb dL_law_214 (lv_at hl 5 rfl) ?_
  refine lv_iconst (v := nI 5) hx hb dL_law_216 (by decide) ?_
  refine lv_iadd hx hb dL_law_217 ?_
  refine q_ti (nI_add (8 * k) 5) ?_
  refine va_sld (i := nI ((8 * k) + 5)) hx hb hX hbl (Nat.not_le.mpr hbl) hS (vp_in_nI (n := 8 * k + 5) (by omega) (by omega)) dL_law_218 ?_
  refine q_ti (y := x5) (by rw [hx5, nI_clamp (by omega)]) ?_
  refine lv_aload_n hx hb dL_law_219 rfl (lv_at hl 0 rfl) ?_
  refine lv_iload hx hb dL_law_220 (lv_at hl 5 rfl) ?_
  refine lv_bipush (v := nI 6) hx hb dL_law_222 (by decide) ?_
  refine lv_iadd hx hb dL_law_224 ?_
  refine q_ti (nI_add (8 * k) 6) ?_
  refine va_sld (i := nI ((8 * k) + 6)) hx hb hX hbl (Nat.not_le.mpr hbl) hS (vp_in_nI (n := 8 * k + 6) (by omega) (by omega)) dL_law_225 ?_
  refine q_ti (y := x6) (by rw [hx6, nI_clamp (by omega)]) ?_
  refine lv_aload_n hx hb dL_law_226 rfl (lv_at hl 3 rfl) ?_
  refine q_wv (vx_runSW (As := [.ref (ad 0 0), .int (x1), .int (x2), .int (x3), .int (x4), .int (x5), .int (x6), .ref (o1)]) (rest := []) ⟨hx, hb, hml, hown, hts⟩ M1 (vx_cwSW 8 hts gL_law_L_addLine rfl rfl rfl (by decide +kernel) ⟨by show fr + 1 ≤ 21; omega, by show 8 + (9 + 11) + lo ≤ 10922; omega⟩) ⟨qLg.blind, qLg.pre hC hW (hD.z hZ0 hS) (hD.up hhz) hzT hzN hat1⟩ rfl rfl hl.1 rfl (lv_room (Nat.le_of_ble_eq_true rfl)) dL_law_227 ⟨by show cells + mc ≤ 603072; omega, by show slots + ms ≤ 7223402; omega⟩) hS hD.a1 hD.a1 (fun H1 locs hP9 hz1 hk1 hS => ?_)
  obtain ⟨ad9, hAE, hW, f3, hat1, hv1⟩ := hP9
  have hrW := hD.w1 hrW hk1
  have hat2 := hD.c1 hat2 hk1
  have hhz := Nat.le_trans hhz hz1
  refine lv_istore (lv' := [(6, .int (nI K)), (0, .ref (b)), (1, .ref (ad 0 0)), (2, .ref (bd 0 0)), (3, .ref (o1)), (4, .ref (o2)), (5, .int (nI (8 * k)))]) hx hb dL_law_230 hl (by decide) rfl (fun ls hl => ?_)
  refine lv_aload_n hx hb dL_law_232 rfl (lv_at hl 3 rfl) ?_
  refine lv_aload_n hx hb dL_law_233 rfl (lv_at hl 1 rfl) ?_
  refine lv_iload hx hb dL_law_234 (lv_at hl 6 rfl) ?_
  refine lv_iconst (v := nI 1) hx hb dL_law_236 (by decide) ?_
  refine lv_iadd hx hb dL_law_237 ?_
  refine q_ti (nI_add (8 * k) 1) ?_
  refine va_sld (i := nI ((8 * k) + 1)) hx hb hX hbl (Nat.not_le.mpr hbl) hS (vp_in_nI (n := 8 * k + 1) (by omega) (by omega)) dL_law_238 ?_
  refine q_ti (y := x1) (by rw [hx1, nI_clamp (by omega)]) ?_
  refine lv_aload_n hx hb dL_law_239 rfl (lv_at hl 1 rfl) ?_
  refine lv_iload hx hb dL_law_240 (lv_at hl 6 rfl) ?_
  refine lv_iconst (v := nI 2) hx hb dL_law_242 (by decide) ?_
  refine lv_iadd hx hb dL_law_243 ?_
  refine q_ti (nI_add (8 * k) 2) ?_
  refine va_sld (i := nI ((8 * k) + 2)) hx hb hX hbl (Nat.not_le.mpr hbl) hS (vp_in_nI (n := 8 * k + 2) (by omega) (by omega)) dL_law_244 ?_
  refine q_ti (y := x2) (by rw [hx2, nI_clamp (by omega)]) ?_
  refine lv_aload_n hx hb dL_law_245 rfl (lv_at hl 1 rfl) ?_
  refine lv_iload hx hb dL_law_246 (lv_at hl 6 rfl) ?_
  refine lv_iconst (v := nI 3) hx hb dL_law_248 (by decide) ?_
  refine lv_iadd hx hb dL_law_249 ?_
  refine q_ti (nI_add (8 * k) 3) ?_
  refine va_sld (i := nI ((8 * k) + 3)) hx hb hX hbl (Nat.not_le.mpr hbl) hS (vp_in_nI (n := 8 * k + 3) (by omega) (by omega)) dL_law_250 ?_
  refine q_ti (y := x3) (by rw [hx3, nI_clamp (by omega)]) ?_
  refine lv_aload_n hx hb dL_law_251 rfl (lv_at hl 1 rfl) ?_
  refine lv_iload hx hb dL_law_252 (lv_at hl 6 rfl) ?_
  refine lv_iconst (v := nI 4) hx hb dL_law_254 (by decide) ?_
  refine lv_iadd hx hb dL_law_255 ?_
  refine q_ti (nI_add (8 * k) 4) ?_
  refine va_sld (i := nI ((8 * k) + 4)) hx hb hX hbl (Nat.not_le.mpr hbl) hS (vp_in_nI (n := 8 * k + 4) (by omega) (by omega)) dL_law_256 ?_
  refine q_ti (y := x4) (by rw [hx4, nI_clamp (by omega)]) ?_
  refine lv_aload_n hx hb dL_law_257 rfl (lv_at hl 1 rfl) ?_
  refine lv_iload hx hb dL_law_258 (lv_at hl 6 rfl) ?_
  refine lv_iconst (v := nI 5) hx hb dL_law_260 (by decide) ?_
  refine lv_iadd hx hb dL_law_261 ?_
  refine q_ti (nI_add (8 * k) 5) ?_
  refine va_sld (i := nI ((8 * k) + 5)) hx hb hX hbl (Nat.not_le.mpr hbl) hS (vp_in_nI (n := 8 * k + 5) (by omega) (by omega)) dL_law_262 ?_
  refine q_ti (y := x5) (by rw [hx5, nI_clamp (by omega)]) ?_
  refine lv_aload_n hx hb dL_law_263 rfl (lv_at hl 1 rfl) ?_
  refine lv_iload hx hb dL_law_264 (lv_at hl 6 rfl) ?_
  refine lv_bipush (v := nI 6) hx hb dL_law_266 (by decide) ?_
  refine lv_iadd hx hb dL_law_268 ?_
  refine q_ti (nI_add (8 * k) 6) ?_
  refine va_sld (i := nI ((8 * k) + 6)) hx hb hX hbl (Nat.not_le.mpr hbl) hS (vp_in_nI (n := 8 * k + 6) (by omega) (by omega)) dL_law_269 ?_
  refine q_ti (y := x6) (by rw [hx6, nI_clamp (by omega)]) ?_
  refine q_wv (va_runV (As := [.int (x1), .int (x2), .int (x3), .int (x4), .int (x5), .int (x6)]) (rest := []) ⟨hx, hb, hml, hown, hts⟩ M2 (cwV 6 hts gL_law_X8_addLine rfl rfl rfl (by decide +kernel) ⟨by show fr2 + 1 ≤ 21; omega, by show 8 + (10 + 11) + lo2 ≤ 10922; omega⟩) ⟨rR.blind, qrecv hC (hrW.to rLV0) rfl, rR.pre hC hrW⟩ rfl rfl hl.1 rfl (lv_room (Nat.le_of_ble_eq_true rfl)) dL_law_270 ⟨by show cells + mc + 0 ≤ 603072; omega, by show slots + ms + 0 ≤ 7223402; omega⟩) hS hD.b hD.b (fun H2 locs hrW hz2 hk2 hS => ?_)
  have hW := hD.wB hW hk2
  have hat1 := hD.k1 hat1 hk2
  have hat2 := hD.k2 hat2 hk2
  have hhz := Nat.le_trans hhz hz2
  refine lv_istore (lv' := [(7, .int (v)), (6, .int (nI K)), (0, .ref (b)), (1, .ref (ad 0 0)), (2, .ref (bd 0 0)), (3, .ref (o1)), (4, .ref (o2)), (5, .int (nI (8 * k)))]) hx hb dL_law_273 hl (by decide) rfl (fun ls hl => ?_)
  refine lv_aload_n hx hb dL_law_275 rfl (lv_at hl 4 rfl) ?_
  refine q_v (va_runV (As := []) (rest := []) ⟨hx, hb, hml, hown, hts⟩ (m_rthrown l G B R2 bd hw2) (cwV 0 hts gL_law_X8_thrown rfl rfl rfl (by decide +kernel) ⟨Nat.le_of_ble_eq_true rfl, Nat.le_of_ble_eq_true rfl⟩) ⟨rR.blind, qrecv hC (hrW.to rLV0) rfl, rR.pre hC hrW⟩ rfl rfl hl.1 rfl (lv_room (Nat.le_of_ble_eq_true rfl)) dL_law_276 ⟨by show cells + mc + 0 + 0 ≤ 603072; omega, by show slots + ms + 0 + 0 ≤ 7223402; omega⟩) hS (fun _ h => h.elim) (fun locs hS => ?_)
  refine q_ti (y := nI K) (by rw [hK2]) ?_
  refine lv_iload hx hb dL_law_279 (lv_at hl 1 rfl) ?_
  refine q_eq (tgt := 286) hx hb (by omega) (by omega) dL_law_281 (by decide) (fun h5 => ?_) (fun h5 => (by omega))
  refine lv_iload hx hb dL_law_286 (lv_at hl 1 rfl) ?_
  refine q_ne0 (tgt := 303) hx hb (by omega) dL_law_288 (by decide) (fun h6 => ?_) (fun h6 => ?_)
  · skip
    refine lv_goto (tgt := 1997) hx hb dL_law_303 (by decide) ?_
    refine va_forget (fun q hq => hS.2.2 q hq) ?_
    refine W.widen (k := cells + 24) (n := slots + 14000) (by omega) (by omega) ?_
    exact next σ2 R2 ad9 _ ls ⟨hv2, hR2, hw2, hW, hrW, ⟨_, hat1⟩, ⟨_, hat2⟩, hS.forget, hhz⟩ (by rw [hAE 0 0 (by decide) (fun z => absurd z (by decide))]; exact lv_sub hl [2, 3, 4, 5, 6, 7] rfl)
  · skip
    refine lv_aload_n hx hb dL_law_291 rfl (lv_at hl 5 rfl) ?_
    refine lv_iconst (v := nI 0) hx hb dL_law_292 (by decide) ?_
    refine r_lald hx hb hC.1 hat1 2 rfl (i := 0) (by decide) (by decide) (v := (v).toInt64) (hv1 h6) dL_law_293 ?_
    refine lv_iload hx hb dL_law_294 (lv_at hl 0 rfl) ?_
    refine lv_i2l (v := (v).toInt64) hx hb dL_law_296 rfl ?_
    refine W.lcmp hx hb dL_law_297 ?_
    refine q_ti (y := nI 0) (l_cmp _) ?_
    refine q_eq0 (tgt := 303) hx hb (by decide) dL_law_298 (by decide) (fun h9 => ?_) (fun h9 => (by omega))
    refine lv_goto (tgt := 1997) hx hb dL_law_303 (by decide) ?_
    refine va_forget (fun q hq => hS.2.2 q hq) ?_
    refine W.widen (k := cells + 24) (n := slots + 14000) (by omega) (by omega) ?_
    exact next σ2 R2 ad9 _ ls ⟨hv2, hR2, hw2, hW, hrW, ⟨_, hat1⟩, ⟨_, hat2⟩, hS.forget, hhz⟩ (by rw [hAE 0 0 (by decide) (fun z => absurd z (by decide))]; exact lv_sub hl [2, 3, 4, 5, 6, 7] rfl)
set_option maxHeartbeats 4000000 in
set_option maxRecDepth 100000 in
theorem c_lines (cx : lC p l s m meth c b L xs G es o1 o2 hz A B) {k : Nat} (hk : 8 * k + 8 ≤ L) {σ ρ ad : QSt} {H : Heap} {ls : Array Slot} (hI : lS G es A B bd o1 o2 hz s σ ρ ad H) (hl : lv_has ls 9 [(0, .ref b), (1, .ref (ad 0 0)), (2, .ref (bd 0 0)), (3, .ref o1), (4, .ref o2), (5, .int (nI (8 * k)))]) {cells slots : Nat} {Q : State → Prop} (hroom : cells + 24 ≤ 603072 ∧ slots + 14000 ≤ 7223402)
    (next : ∀ (σ ρ ad : QSt) (H : Heap) (ls : Array Slot), lS G es A B bd o1 o2 hz s σ ρ ad H → lv_has ls 9 [(0, .ref b), (1, .ref (ad 0 0)), (2, .ref (bd 0 0)), (3, .ref o1), (4, .ref o2), (5, .int (nI (8 * k)))] → W p l e room_1 s m #[Value.ref b] below meth c H [] (cells + 24) (slots + 14000) Q (F0 m 1997 ls [])) : W p l e room_1 s m #[Value.ref b] below meth c H [] cells slots Q (F0 m 306 ls []) := by
  obtain ⟨hx, hb, hml, hown, hts, hlocks, hst, hX, hbl, hC, hZ0, hzT, hzN, hL, hD⟩ := cx
  obtain ⟨hv, hR, hw, hW, hrW, ⟨f1, hat1⟩, ⟨f2, hat2⟩, hS, hhz⟩ := hI
  have hF := hv.1.wf
  have hB := hF.1
  have hn := hF.n
  refine lv_aload_n hx hb dL_law_306 rfl (lv_at hl 1 rfl) ?_
  refine q_v (va_runV (As := []) (rest := []) ⟨hx, hb, hml, hown, hts⟩ (m_lines l G es A σ ad hF) (cwV 0 hts gL_law_X7_lines rfl rfl rfl (by decide +kernel) ⟨Nat.le_of_ble_eq_true rfl, Nat.le_of_ble_eq_true rfl⟩) ⟨qR.blind, qrecv hC (hW.to qLV0) rfl, qR.pre hC hW⟩ rfl rfl hl.1 rfl (lv_room (Nat.le_of_ble_eq_true rfl)) dL_law_307 ⟨by show cells + 0 ≤ 603072; omega, by show slots + 0 ≤ 7223402; omega⟩) hS (fun _ h => h.elim) (fun locs hS => ?_)
  refine lv_aload_n hx hb dL_law_310 rfl (lv_at hl 2 rfl) ?_
  refine q_wv (va_runV (As := []) (rest := [.int (nI (σ 0 0))]) ⟨hx, hb, hml, hown, hts⟩ (m_rlines l G B ρ bd (rT_wf hw)) (cwV 0 hts gL_law_X8_lines rfl rfl rfl (by decide +kernel) ⟨Nat.le_of_ble_eq_true rfl, Nat.le_of_ble_eq_true rfl⟩) ⟨rR.blind, qrecv hC (hrW.to rLV0) rfl, rR.pre hC hrW⟩ rfl rfl hl.1 rfl (lv_room (Nat.le_of_ble_eq_true rfl)) dL_law_311 ⟨by show cells + 0 ≤ 603072; omega, by show slots + 0 ≤ 7223402; omega⟩) hS hD.b hD.b (fun H2 locs hrW hz2 hk2 hS => ?_)
  have hW := hD.wB hW hk2
  have hat1 := hD.k1 hat1 hk2
  have hat2 := hD.k2 hat2 hk2
  have hhz := Nat.le_trans hhz hz2
  refine q_ti (y := nI (σ 0 0)) (by rw [(l_rT hR).n (by decide)]) ?_
  refine q_eq (tgt := 1997) hx hb (q31 (hB _ _)) (q31 (hB _ _)) dL_law_314 (by decide) (fun h5 => ?_) (fun h5 => (by omega))
  refine va_forget (fun q hq => hS.2.2 q hq) ?_
  refine W.widen (k := cells + 24) (n := slots + 14000) (by omega) (by omega) ?_
  exact next σ (rT ρ) ad _ ls ⟨hv, l_rT hR, rT_wf hw, hW, hrW, ⟨_, hat1⟩, ⟨_, hat2⟩, hS.forget, hhz⟩ (lv_sub hl [0, 1, 2, 3, 4, 5] rfl)
set_option maxHeartbeats 4000000 in
set_option maxRecDepth 100000 in
theorem c_stateOf (cx : lC p l s m meth c b L xs G es o1 o2 hz A B) {k : Nat} (hk : 8 * k + 8 ≤ L) {σ ρ ad : QSt} {H : Heap} {ls : Array Slot} (hI : lS G es A B bd o1 o2 hz s σ ρ ad H) (hl : lv_has ls 9 [(0, .ref b), (1, .ref (ad 0 0)), (2, .ref (bd 0 0)), (3, .ref o1), (4, .ref o2), (5, .int (nI (8 * k)))]) {cells slots : Nat} {Q : State → Prop} (hroom : cells + 24 ≤ 603072 ∧ slots + 14000 ≤ 7223402)
    (next : ∀ (σ ρ ad : QSt) (H : Heap) (ls : Array Slot), lS G es A B bd o1 o2 hz s σ ρ ad H → lv_has ls 9 [(0, .ref b), (1, .ref (ad 0 0)), (2, .ref (bd 0 0)), (3, .ref o1), (4, .ref o2), (5, .int (nI (8 * k)))] → W p l e room_1 s m #[Value.ref b] below meth c H [] (cells + 24) (slots + 14000) Q (F0 m 1997 ls [])) : W p l e room_1 s m #[Value.ref b] below meth c H [] cells slots Q (F0 m 319 ls []) := by
  obtain ⟨hx, hb, hml, hown, hts, hlocks, hst, hX, hbl, hC, hZ0, hzT, hzN, hL, hD⟩ := cx
  obtain ⟨hv, hR, hw, hW, hrW, ⟨f1, hat1⟩, ⟨f2, hat2⟩, hS, hhz⟩ := hI
  have hF := hv.1.wf
  have hB := hF.1
  have hn := hF.n
  obtain ⟨x1, hx1⟩ : ∃ x, x = xs (8 * k + 1) := ⟨_, rfl⟩
  obtain ⟨K, mc, ms, fr, lo, fr2, lo2, σ2, R2, v, hK, hmc, hms, ⟨hr1, hr2, hr3, hr4⟩, hv2, hR2, hw2, hK2, hPv, M1, M2⟩ := lk_stateOf (l := l) (G := G) (es := es) (A := A) (B := B) (σ := σ) (ρ := ρ) (ad := ad) (bd := bd) (o1 := o1) (f1 := f1) hst hv hR hw hD.n1 x1
  refine lv_aload_n hx hb dL_law_319 rfl (lv_at hl 1 rfl) ?_
  refine lv_aload_n hx hb dL_law_320 rfl (lv_at hl 0 rfl) ?_
  refine lv_iload hx hb dL_law_321 (lv_at hl 5 rfl) ?_
  refine lv_iconst (v := nI 1) hx hb dL_law_323 (by decide) ?_
  refine lv_iadd hx hb dL_law_324 ?_
  refine q_ti (nI_add (8 * k) 1) ?_
  refine va_sld (i := nI ((8 * k) + 1)) hx hb hX hbl (Nat.not_le.mpr hbl) hS (vp_in_nI (n := 8 * k + 1) (by omega) (by omega)) dL_law_325 ?_
  refine q_ti (y := x1) (by rw [hx1, nI_clamp (by omega)]) ?_
  refine lv_aload_n hx hb dL_law_326 rfl (lv_at hl 3 rfl) ?_
  refine q_wv (vx_runSW (As := [.ref (ad 0 0), .int (x1), .ref (o1)]) (rest := []) ⟨hx, hb, hml, hown, hts⟩ M1 (vx_cwSW 3 hts gL_law_L_stateOf rfl rfl rfl (by decide +kernel) ⟨by show fr + 1 ≤ 21; omega, by show 8 + (4 + 11) + lo ≤ 10922; omega⟩) ⟨qLg.blind, qLg.pre hC hW (hD.z hZ0 hS) (hD.up hhz) hzT hzN hat1⟩ rfl rfl hl.1 rfl (lv_room (Nat.le_of_ble_eq_true rfl)) dL_law_327 ⟨by show cells + mc ≤ 603072; omega, by show slots + ms ≤ 7223402; omega⟩) hS hD.a1 hD.a1 (fun H1 locs hP9 hz1 hk1 hS => ?_)
  obtain ⟨ad9, hAE, hW, f3, hat1, hv1⟩ := hP9
  have hrW := hD.w1 hrW hk1
  have hat2 := hD.c1 hat2 hk1
  have hhz := Nat.le_trans hhz hz1
  refine lv_istore (lv' := [(6, .int (nI K)), (0, .ref (b)), (1, .ref (ad 0 0)), (2, .ref (bd 0 0)), (3, .ref (o1)), (4, .ref (o2)), (5, .int (nI (8 * k)))]) hx hb dL_law_330 hl (by decide) rfl (fun ls hl => ?_)
  refine lv_aload_n hx hb dL_law_332 rfl (lv_at hl 3 rfl) ?_
  refine lv_aload_n hx hb dL_law_333 rfl (lv_at hl 1 rfl) ?_
  refine lv_iload hx hb dL_law_334 (lv_at hl 6 rfl) ?_
  refine lv_iconst (v := nI 1) hx hb dL_law_336 (by decide) ?_
  refine lv_iadd hx hb dL_law_337 ?_
  refine q_ti (nI_add (8 * k) 1) ?_
  refine va_sld (i := nI ((8 * k) + 1)) hx hb hX hbl (Nat.not_le.mpr hbl) hS (vp_in_nI (n := 8 * k + 1) (by omega) (by omega)) dL_law_338 ?_
  refine q_ti (y := x1) (by rw [hx1, nI_clamp (by omega)]) ?_
  refine q_wv (va_runV (As := [.int (x1)]) (rest := []) ⟨hx, hb, hml, hown, hts⟩ M2 (cwV 1 hts gL_law_X8_stateOf rfl rfl rfl (by decide +kernel) ⟨by show fr2 + 1 ≤ 21; omega, by show 8 + (2 + 11) + lo2 ≤ 10922; omega⟩) ⟨rR.blind, qrecv hC (hrW.to rLV0) rfl, rR.pre hC hrW⟩ rfl rfl hl.1 rfl (lv_room (Nat.le_of_ble_eq_true rfl)) dL_law_339 ⟨by show cells + mc + 0 ≤ 603072; omega, by show slots + ms + 0 ≤ 7223402; omega⟩) hS hD.b hD.b (fun H2 locs hrW hz2 hk2 hS => ?_)
  have hW := hD.wB hW hk2
  have hat1 := hD.k1 hat1 hk2
  have hat2 := hD.k2 hat2 hk2
  have hhz := Nat.le_trans hhz hz2
  refine lv_istore (lv' := [(7, .int (v)), (6, .int (nI K)), (0, .ref (b)), (1, .ref (ad 0 0)), (2, .ref (bd 0 0)), (3, .ref (o1)), (4, .ref (o2)), (5, .int (nI (8 * k)))]) hx hb dL_law_342 hl (by decide) rfl (fun ls hl => ?_)
  refine lv_aload_n hx hb dL_law_344 rfl (lv_at hl 4 rfl) ?_
  refine q_v (va_runV (As := []) (rest := []) ⟨hx, hb, hml, hown, hts⟩ (m_rthrown l G B R2 bd hw2) (cwV 0 hts gL_law_X8_thrown rfl rfl rfl (by decide +kernel) ⟨Nat.le_of_ble_eq_true rfl, Nat.le_of_ble_eq_true rfl⟩) ⟨rR.blind, qrecv hC (hrW.to rLV0) rfl, rR.pre hC hrW⟩ rfl rfl hl.1 rfl (lv_room (Nat.le_of_ble_eq_true rfl)) dL_law_345 ⟨by show cells + mc + 0 + 0 ≤ 603072; omega, by show slots + ms + 0 + 0 ≤ 7223402; omega⟩) hS (fun _ h => h.elim) (fun locs hS => ?_)
  refine q_ti (y := nI K) (by rw [hK2]) ?_
  refine lv_iload hx hb dL_law_348 (lv_at hl 1 rfl) ?_
  refine q_eq (tgt := 355) hx hb (by omega) (by omega) dL_law_350 (by decide) (fun h5 => ?_) (fun h5 => (by omega))
  refine lv_iload hx hb dL_law_355 (lv_at hl 1 rfl) ?_
  refine q_ne0 (tgt := 372) hx hb (by omega) dL_law_357 (by decide) (fun h6 => ?_) (fun h6 => ?_)
  · skip
    refine lv_goto (tgt := 1997) hx hb dL_law_372 (by decide) ?_
    refine va_forget (fun q hq => hS.2.2 q hq) ?_
    refine W.widen (k := cells + 24) (n := slots + 14000) (by omega) (by omega) ?_
    exact next σ2 R2 ad9 _ ls ⟨hv2, hR2, hw2, hW, hrW, ⟨_, hat1⟩, ⟨_, hat2⟩, hS.forget, hhz⟩ (by rw [hAE 0 0 (by decide) (fun z => absurd z (by decide))]; exact lv_sub hl [2, 3, 4, 5, 6, 7] rfl)
  · skip
    refine lv_aload_n hx hb dL_law_360 rfl (lv_at hl 5 rfl) ?_
    refine lv_iconst (v := nI 0) hx hb dL_law_361 (by decide) ?_
    refine r_lald hx hb hC.1 hat1 2 rfl (i := 0) (by decide) (by decide) (v := (v).toInt64) (hv1 h6) dL_law_362 ?_
    refine lv_iload hx hb dL_law_363 (lv_at hl 0 rfl) ?_
    refine lv_i2l (v := (v).toInt64) hx hb dL_law_365 rfl ?_
    refine W.lcmp hx hb dL_law_366 ?_
    refine q_ti (y := nI 0) (l_cmp _) ?_
    refine q_eq0 (tgt := 372) hx hb (by decide) dL_law_367 (by decide) (fun h9 => ?_) (fun h9 => (by omega))
    refine lv_goto (tgt := 1997) hx hb dL_law_372 (by decide) ?_
    refine va_forget (fun q hq => hS.2.2 q hq) ?_
    refine W.widen (k := cells + 24) (n := slots + 14000) (by omega) (by omega) ?_
    exact next σ2 R2 ad9 _ ls ⟨hv2, hR2, hw2, hW, hrW, ⟨_, hat1⟩, ⟨_, hat2⟩, hS.forget, hhz⟩ (by rw [hAE 0 0 (by decide) (fun z => absurd z (by decide))]; exact lv_sub hl [2, 3, 4, 5, 6, 7] rfl)
set_option maxHeartbeats 4000000 in
set_option maxRecDepth 100000 in
theorem c_patternOf (cx : lC p l s m meth c b L xs G es o1 o2 hz A B) {k : Nat} (hk : 8 * k + 8 ≤ L) {σ ρ ad : QSt} {H : Heap} {ls : Array Slot} (hI : lS G es A B bd o1 o2 hz s σ ρ ad H) (hl : lv_has ls 9 [(0, .ref b), (1, .ref (ad 0 0)), (2, .ref (bd 0 0)), (3, .ref o1), (4, .ref o2), (5, .int (nI (8 * k)))]) {cells slots : Nat} {Q : State → Prop} (hroom : cells + 24 ≤ 603072 ∧ slots + 14000 ≤ 7223402)
    (next : ∀ (σ ρ ad : QSt) (H : Heap) (ls : Array Slot), lS G es A B bd o1 o2 hz s σ ρ ad H → lv_has ls 9 [(0, .ref b), (1, .ref (ad 0 0)), (2, .ref (bd 0 0)), (3, .ref o1), (4, .ref o2), (5, .int (nI (8 * k)))] → W p l e room_1 s m #[Value.ref b] below meth c H [] (cells + 24) (slots + 14000) Q (F0 m 1997 ls [])) : W p l e room_1 s m #[Value.ref b] below meth c H [] cells slots Q (F0 m 375 ls []) := by
  obtain ⟨hx, hb, hml, hown, hts, hlocks, hst, hX, hbl, hC, hZ0, hzT, hzN, hL, hD⟩ := cx
  obtain ⟨hv, hR, hw, hW, hrW, ⟨f1, hat1⟩, ⟨f2, hat2⟩, hS, hhz⟩ := hI
  have hF := hv.1.wf
  have hB := hF.1
  have hn := hF.n
  obtain ⟨x1, hx1⟩ : ∃ x, x = xs (8 * k + 1) := ⟨_, rfl⟩
  obtain ⟨K, mc, ms, fr, lo, fr2, lo2, σ2, R2, v, hK, hmc, hms, ⟨hr1, hr2, hr3, hr4⟩, hv2, hR2, hw2, hK2, hPv, M1, M2⟩ := lk_patternOf (l := l) (G := G) (es := es) (A := A) (B := B) (σ := σ) (ρ := ρ) (ad := ad) (bd := bd) (o1 := o1) (f1 := f1) hst hv hR hw hD.n1 x1
  refine lv_aload_n hx hb dL_law_375 rfl (lv_at hl 1 rfl) ?_
  refine lv_aload_n hx hb dL_law_376 rfl (lv_at hl 0 rfl) ?_
  refine lv_iload hx hb dL_law_377 (lv_at hl 5 rfl) ?_
  refine lv_iconst (v := nI 1) hx hb dL_law_379 (by decide) ?_
  refine lv_iadd hx hb dL_law_380 ?_
  refine q_ti (nI_add (8 * k) 1) ?_
  refine va_sld (i := nI ((8 * k) + 1)) hx hb hX hbl (Nat.not_le.mpr hbl) hS (vp_in_nI (n := 8 * k + 1) (by omega) (by omega)) dL_law_381 ?_
  refine q_ti (y := x1) (by rw [hx1, nI_clamp (by omega)]) ?_
  refine lv_aload_n hx hb dL_law_382 rfl (lv_at hl 3 rfl) ?_
  refine q_wv (vx_runSW (As := [.ref (ad 0 0), .int (x1), .ref (o1)]) (rest := []) ⟨hx, hb, hml, hown, hts⟩ M1 (vx_cwSW 3 hts gL_law_L_patternOf rfl rfl rfl (by decide +kernel) ⟨by show fr + 1 ≤ 21; omega, by show 8 + (4 + 11) + lo ≤ 10922; omega⟩) ⟨qLg.blind, qLg.pre hC hW (hD.z hZ0 hS) (hD.up hhz) hzT hzN hat1⟩ rfl rfl hl.1 rfl (lv_room (Nat.le_of_ble_eq_true rfl)) dL_law_383 ⟨by show cells + mc ≤ 603072; omega, by show slots + ms ≤ 7223402; omega⟩) hS hD.a1 hD.a1 (fun H1 locs hP9 hz1 hk1 hS => ?_)
  obtain ⟨ad9, hAE, hW, f3, hat1, hv1⟩ := hP9
  have hrW := hD.w1 hrW hk1
  have hat2 := hD.c1 hat2 hk1
  have hhz := Nat.le_trans hhz hz1
  refine lv_istore (lv' := [(6, .int (nI K)), (0, .ref (b)), (1, .ref (ad 0 0)), (2, .ref (bd 0 0)), (3, .ref (o1)), (4, .ref (o2)), (5, .int (nI (8 * k)))]) hx hb dL_law_386 hl (by decide) rfl (fun ls hl => ?_)
  refine lv_aload_n hx hb dL_law_388 rfl (lv_at hl 3 rfl) ?_
  refine lv_aload_n hx hb dL_law_389 rfl (lv_at hl 1 rfl) ?_
  refine lv_iload hx hb dL_law_390 (lv_at hl 6 rfl) ?_
  refine lv_iconst (v := nI 1) hx hb dL_law_392 (by decide) ?_
  refine lv_iadd hx hb dL_law_393 ?_
  refine q_ti (nI_add (8 * k) 1) ?_
  refine va_sld (i := nI ((8 * k) + 1)) hx hb hX hbl (Nat.not_le.mpr hbl) hS (vp_in_nI (n := 8 * k + 1) (by omega) (by omega)) dL_law_394 ?_
  refine q_ti (y := x1) (by rw [hx1, nI_clamp (by omega)]) ?_
  refine q_wv (va_runV (As := [.int (x1)]) (rest := []) ⟨hx, hb, hml, hown, hts⟩ M2 (cwV 1 hts gL_law_X8_patternOf rfl rfl rfl (by decide +kernel) ⟨by show fr2 + 1 ≤ 21; omega, by show 8 + (2 + 11) + lo2 ≤ 10922; omega⟩) ⟨rR.blind, qrecv hC (hrW.to rLV0) rfl, rR.pre hC hrW⟩ rfl rfl hl.1 rfl (lv_room (Nat.le_of_ble_eq_true rfl)) dL_law_395 ⟨by show cells + mc + 0 ≤ 603072; omega, by show slots + ms + 0 ≤ 7223402; omega⟩) hS hD.b hD.b (fun H2 locs hrW hz2 hk2 hS => ?_)
  have hW := hD.wB hW hk2
  have hat1 := hD.k1 hat1 hk2
  have hat2 := hD.k2 hat2 hk2
  have hhz := Nat.le_trans hhz hz2
  refine lv_istore (lv' := [(7, .int (v)), (6, .int (nI K)), (0, .ref (b)), (1, .ref (ad 0 0)), (2, .ref (bd 0 0)), (3, .ref (o1)), (4, .ref (o2)), (5, .int (nI (8 * k)))]) hx hb dL_law_398 hl (by decide) rfl (fun ls hl => ?_)
  refine lv_aload_n hx hb dL_law_400 rfl (lv_at hl 4 rfl) ?_
  refine q_v (va_runV (As := []) (rest := []) ⟨hx, hb, hml, hown, hts⟩ (m_rthrown l G B R2 bd hw2) (cwV 0 hts gL_law_X8_thrown rfl rfl rfl (by decide +kernel) ⟨Nat.le_of_ble_eq_true rfl, Nat.le_of_ble_eq_true rfl⟩) ⟨rR.blind, qrecv hC (hrW.to rLV0) rfl, rR.pre hC hrW⟩ rfl rfl hl.1 rfl (lv_room (Nat.le_of_ble_eq_true rfl)) dL_law_401 ⟨by show cells + mc + 0 + 0 ≤ 603072; omega, by show slots + ms + 0 + 0 ≤ 7223402; omega⟩) hS (fun _ h => h.elim) (fun locs hS => ?_)
  refine q_ti (y := nI K) (by rw [hK2]) ?_
  refine lv_iload hx hb dL_law_404 (lv_at hl 1 rfl) ?_
  refine q_eq (tgt := 411) hx hb (by omega) (by omega) dL_law_406 (by decide) (fun h5 => ?_) (fun h5 => (by omega))
  refine lv_iload hx hb dL_law_411 (lv_at hl 1 rfl) ?_
  refine q_ne0 (tgt := 428) hx hb (by omega) dL_law_413 (by decide) (fun h6 => ?_) (fun h6 => ?_)
  · skip
    refine lv_goto (tgt := 1997) hx hb dL_law_428 (by decide) ?_
    refine va_forget (fun q hq => hS.2.2 q hq) ?_
    refine W.widen (k := cells + 24) (n := slots + 14000) (by omega) (by omega) ?_
    exact next σ2 R2 ad9 _ ls ⟨hv2, hR2, hw2, hW, hrW, ⟨_, hat1⟩, ⟨_, hat2⟩, hS.forget, hhz⟩ (by rw [hAE 0 0 (by decide) (fun z => absurd z (by decide))]; exact lv_sub hl [2, 3, 4, 5, 6, 7] rfl)
  · skip
    refine lv_aload_n hx hb dL_law_416 rfl (lv_at hl 5 rfl) ?_
    refine lv_iconst (v := nI 0) hx hb dL_law_417 (by decide) ?_
    refine r_lald hx hb hC.1 hat1 2 rfl (i := 0) (by decide) (by decide) (v := (v).toInt64) (hv1 h6) dL_law_418 ?_
    refine lv_iload hx hb dL_law_419 (lv_at hl 0 rfl) ?_
    refine lv_i2l (v := (v).toInt64) hx hb dL_law_421 rfl ?_
    refine W.lcmp hx hb dL_law_422 ?_
    refine q_ti (y := nI 0) (l_cmp _) ?_
    refine q_eq0 (tgt := 428) hx hb (by decide) dL_law_423 (by decide) (fun h9 => ?_) (fun h9 => (by omega))
    refine lv_goto (tgt := 1997) hx hb dL_law_428 (by decide) ?_
    refine va_forget (fun q hq => hS.2.2 q hq) ?_
    refine W.widen (k := cells + 24) (n := slots + 14000) (by omega) (by omega) ?_
    exact next σ2 R2 ad9 _ ls ⟨hv2, hR2, hw2, hW, hrW, ⟨_, hat1⟩, ⟨_, hat2⟩, hS.forget, hhz⟩ (by rw [hAE 0 0 (by decide) (fun z => absurd z (by decide))]; exact lv_sub hl [2, 3, 4, 5, 6, 7] rfl)
set_option maxHeartbeats 4000000 in
set_option maxRecDepth 100000 in
theorem c_patterns (cx : lC p l s m meth c b L xs G es o1 o2 hz A B) {k : Nat} (hk : 8 * k + 8 ≤ L) {σ ρ ad : QSt} {H : Heap} {ls : Array Slot} (hI : lS G es A B bd o1 o2 hz s σ ρ ad H) (hl : lv_has ls 9 [(0, .ref b), (1, .ref (ad 0 0)), (2, .ref (bd 0 0)), (3, .ref o1), (4, .ref o2), (5, .int (nI (8 * k)))]) {cells slots : Nat} {Q : State → Prop} (hroom : cells + 24 ≤ 603072 ∧ slots + 14000 ≤ 7223402)
    (next : ∀ (σ ρ ad : QSt) (H : Heap) (ls : Array Slot), lS G es A B bd o1 o2 hz s σ ρ ad H → lv_has ls 9 [(0, .ref b), (1, .ref (ad 0 0)), (2, .ref (bd 0 0)), (3, .ref o1), (4, .ref o2), (5, .int (nI (8 * k)))] → W p l e room_1 s m #[Value.ref b] below meth c H [] (cells + 24) (slots + 14000) Q (F0 m 1997 ls [])) : W p l e room_1 s m #[Value.ref b] below meth c H [] cells slots Q (F0 m 431 ls []) := by
  obtain ⟨hx, hb, hml, hown, hts, hlocks, hst, hX, hbl, hC, hZ0, hzT, hzN, hL, hD⟩ := cx
  obtain ⟨hv, hR, hw, hW, hrW, ⟨f1, hat1⟩, ⟨f2, hat2⟩, hS, hhz⟩ := hI
  have hF := hv.1.wf
  have hB := hF.1
  have hn := hF.n
  obtain ⟨x1, hx1⟩ : ∃ x, x = xs (8 * k + 1) := ⟨_, rfl⟩
  obtain ⟨K, mc, ms, fr, lo, fr2, lo2, σ2, R2, v, hK, hmc, hms, ⟨hr1, hr2, hr3, hr4⟩, hv2, hR2, hw2, hK2, hPv, M1, M2⟩ := lk_patterns (l := l) (G := G) (es := es) (A := A) (B := B) (σ := σ) (ρ := ρ) (ad := ad) (bd := bd) (o1 := o1) (f1 := f1) hst hv hR hw hD.n1 x1
  refine lv_aload_n hx hb dL_law_431 rfl (lv_at hl 1 rfl) ?_
  refine lv_aload_n hx hb dL_law_432 rfl (lv_at hl 0 rfl) ?_
  refine lv_iload hx hb dL_law_433 (lv_at hl 5 rfl) ?_
  refine lv_iconst (v := nI 1) hx hb dL_law_435 (by decide) ?_
  refine lv_iadd hx hb dL_law_436 ?_
  refine q_ti (nI_add (8 * k) 1) ?_
  refine va_sld (i := nI ((8 * k) + 1)) hx hb hX hbl (Nat.not_le.mpr hbl) hS (vp_in_nI (n := 8 * k + 1) (by omega) (by omega)) dL_law_437 ?_
  refine q_ti (y := x1) (by rw [hx1, nI_clamp (by omega)]) ?_
  refine lv_aload_n hx hb dL_law_438 rfl (lv_at hl 3 rfl) ?_
  refine q_wv (vx_runSW (As := [.ref (ad 0 0), .int (x1), .ref (o1)]) (rest := []) ⟨hx, hb, hml, hown, hts⟩ M1 (vx_cwSW 3 hts gL_law_L_patterns rfl rfl rfl (by decide +kernel) ⟨by show fr + 1 ≤ 21; omega, by show 8 + (4 + 11) + lo ≤ 10922; omega⟩) ⟨qLg.blind, qLg.pre hC hW (hD.z hZ0 hS) (hD.up hhz) hzT hzN hat1⟩ rfl rfl hl.1 rfl (lv_room (Nat.le_of_ble_eq_true rfl)) dL_law_439 ⟨by show cells + mc ≤ 603072; omega, by show slots + ms ≤ 7223402; omega⟩) hS hD.a1 hD.a1 (fun H1 locs hP9 hz1 hk1 hS => ?_)
  obtain ⟨ad9, hAE, hW, f3, hat1, hv1⟩ := hP9
  have hrW := hD.w1 hrW hk1
  have hat2 := hD.c1 hat2 hk1
  have hhz := Nat.le_trans hhz hz1
  refine lv_istore (lv' := [(6, .int (nI K)), (0, .ref (b)), (1, .ref (ad 0 0)), (2, .ref (bd 0 0)), (3, .ref (o1)), (4, .ref (o2)), (5, .int (nI (8 * k)))]) hx hb dL_law_442 hl (by decide) rfl (fun ls hl => ?_)
  refine lv_aload_n hx hb dL_law_444 rfl (lv_at hl 3 rfl) ?_
  refine lv_aload_n hx hb dL_law_445 rfl (lv_at hl 1 rfl) ?_
  refine lv_iload hx hb dL_law_446 (lv_at hl 6 rfl) ?_
  refine lv_iconst (v := nI 1) hx hb dL_law_448 (by decide) ?_
  refine lv_iadd hx hb dL_law_449 ?_
  refine q_ti (nI_add (8 * k) 1) ?_
  refine va_sld (i := nI ((8 * k) + 1)) hx hb hX hbl (Nat.not_le.mpr hbl) hS (vp_in_nI (n := 8 * k + 1) (by omega) (by omega)) dL_law_450 ?_
  refine q_ti (y := x1) (by rw [hx1, nI_clamp (by omega)]) ?_
  refine q_wv (va_runV (As := [.int (x1)]) (rest := []) ⟨hx, hb, hml, hown, hts⟩ M2 (cwV 1 hts gL_law_X8_patterns rfl rfl rfl (by decide +kernel) ⟨by show fr2 + 1 ≤ 21; omega, by show 8 + (4 + 11) + lo2 ≤ 10922; omega⟩) ⟨rR.blind, qrecv hC (hrW.to rLV0) rfl, rR.pre hC hrW⟩ rfl rfl hl.1 rfl (lv_room (Nat.le_of_ble_eq_true rfl)) dL_law_451 ⟨by show cells + mc + 0 ≤ 603072; omega, by show slots + ms + 0 ≤ 7223402; omega⟩) hS hD.b hD.b (fun H2 locs hrW hz2 hk2 hS => ?_)
  have hW := hD.wB hW hk2
  have hat1 := hD.k1 hat1 hk2
  have hat2 := hD.k2 hat2 hk2
  have hhz := Nat.le_trans hhz hz2
  refine lv_istore (lv' := [(7, .int (v)), (6, .int (nI K)), (0, .ref (b)), (1, .ref (ad 0 0)), (2, .ref (bd 0 0)), (3, .ref (o1)), (4, .ref (o2)), (5, .int (nI (8 * k)))]) hx hb dL_law_454 hl (by decide) rfl (fun ls hl => ?_)
  refine lv_aload_n hx hb dL_law_456 rfl (lv_at hl 4 rfl) ?_
  refine q_v (va_runV (As := []) (rest := []) ⟨hx, hb, hml, hown, hts⟩ (m_rthrown l G B R2 bd hw2) (cwV 0 hts gL_law_X8_thrown rfl rfl rfl (by decide +kernel) ⟨Nat.le_of_ble_eq_true rfl, Nat.le_of_ble_eq_true rfl⟩) ⟨rR.blind, qrecv hC (hrW.to rLV0) rfl, rR.pre hC hrW⟩ rfl rfl hl.1 rfl (lv_room (Nat.le_of_ble_eq_true rfl)) dL_law_457 ⟨by show cells + mc + 0 + 0 ≤ 603072; omega, by show slots + ms + 0 + 0 ≤ 7223402; omega⟩) hS (fun _ h => h.elim) (fun locs hS => ?_)
  refine q_ti (y := nI K) (by rw [hK2]) ?_
  refine lv_iload hx hb dL_law_460 (lv_at hl 1 rfl) ?_
  refine q_eq (tgt := 467) hx hb (by omega) (by omega) dL_law_462 (by decide) (fun h5 => ?_) (fun h5 => (by omega))
  refine lv_iload hx hb dL_law_467 (lv_at hl 1 rfl) ?_
  refine q_ne0 (tgt := 484) hx hb (by omega) dL_law_469 (by decide) (fun h6 => ?_) (fun h6 => ?_)
  · skip
    refine lv_goto (tgt := 1997) hx hb dL_law_484 (by decide) ?_
    refine va_forget (fun q hq => hS.2.2 q hq) ?_
    refine W.widen (k := cells + 24) (n := slots + 14000) (by omega) (by omega) ?_
    exact next σ2 R2 ad9 _ ls ⟨hv2, hR2, hw2, hW, hrW, ⟨_, hat1⟩, ⟨_, hat2⟩, hS.forget, hhz⟩ (by rw [hAE 0 0 (by decide) (fun z => absurd z (by decide))]; exact lv_sub hl [2, 3, 4, 5, 6, 7] rfl)
  · skip
    refine lv_aload_n hx hb dL_law_472 rfl (lv_at hl 5 rfl) ?_
    refine lv_iconst (v := nI 0) hx hb dL_law_473 (by decide) ?_
    refine r_lald hx hb hC.1 hat1 2 rfl (i := 0) (by decide) (by decide) (v := (v).toInt64) (hv1 h6) dL_law_474 ?_
    refine lv_iload hx hb dL_law_475 (lv_at hl 0 rfl) ?_
    refine lv_i2l (v := (v).toInt64) hx hb dL_law_477 rfl ?_
    refine W.lcmp hx hb dL_law_478 ?_
    refine q_ti (y := nI 0) (l_cmp _) ?_
    refine q_eq0 (tgt := 484) hx hb (by decide) dL_law_479 (by decide) (fun h9 => ?_) (fun h9 => (by omega))
    refine lv_goto (tgt := 1997) hx hb dL_law_484 (by decide) ?_
    refine va_forget (fun q hq => hS.2.2 q hq) ?_
    refine W.widen (k := cells + 24) (n := slots + 14000) (by omega) (by omega) ?_
    exact next σ2 R2 ad9 _ ls ⟨hv2, hR2, hw2, hW, hrW, ⟨_, hat1⟩, ⟨_, hat2⟩, hS.forget, hhz⟩ (by rw [hAE 0 0 (by decide) (fun z => absurd z (by decide))]; exact lv_sub hl [2, 3, 4, 5, 6, 7] rfl)
set_option maxHeartbeats 4000000 in
set_option maxRecDepth 100000 in
theorem c_wordAt (cx : lC p l s m meth c b L xs G es o1 o2 hz A B) {k : Nat} (hk : 8 * k + 8 ≤ L) {σ ρ ad : QSt} {H : Heap} {ls : Array Slot} (hI : lS G es A B bd o1 o2 hz s σ ρ ad H) (hl : lv_has ls 9 [(0, .ref b), (1, .ref (ad 0 0)), (2, .ref (bd 0 0)), (3, .ref o1), (4, .ref o2), (5, .int (nI (8 * k)))]) {cells slots : Nat} {Q : State → Prop} (hroom : cells + 24 ≤ 603072 ∧ slots + 14000 ≤ 7223402)
    (next : ∀ (σ ρ ad : QSt) (H : Heap) (ls : Array Slot), lS G es A B bd o1 o2 hz s σ ρ ad H → lv_has ls 9 [(0, .ref b), (1, .ref (ad 0 0)), (2, .ref (bd 0 0)), (3, .ref o1), (4, .ref o2), (5, .int (nI (8 * k)))] → W p l e room_1 s m #[Value.ref b] below meth c H [] (cells + 24) (slots + 14000) Q (F0 m 1997 ls [])) : W p l e room_1 s m #[Value.ref b] below meth c H [] cells slots Q (F0 m 487 ls []) := by
  obtain ⟨hx, hb, hml, hown, hts, hlocks, hst, hX, hbl, hC, hZ0, hzT, hzN, hL, hD⟩ := cx
  obtain ⟨hv, hR, hw, hW, hrW, ⟨f1, hat1⟩, ⟨f2, hat2⟩, hS, hhz⟩ := hI
  have hF := hv.1.wf
  have hB := hF.1
  have hn := hF.n
  obtain ⟨x1, hx1⟩ : ∃ x, x = xs (8 * k + 1) := ⟨_, rfl⟩
  obtain ⟨x2, hx2⟩ : ∃ x, x = xs (8 * k + 2) := ⟨_, rfl⟩
  obtain ⟨K, mc, ms, fr, lo, fr2, lo2, σ2, R2, v, hK, hmc, hms, ⟨hr1, hr2, hr3, hr4⟩, hv2, hR2, hw2, hK2, hPv, M1, M2⟩ := lk_wordAt (l := l) (G := G) (es := es) (A := A) (B := B) (σ := σ) (ρ := ρ) (ad := ad) (bd := bd) (o1 := o1) (f1 := f1) hst hv hR hw hD.n1 x1 x2
  refine lv_aload_n hx hb dL_law_487 rfl (lv_at hl 1 rfl) ?_
  refine lv_aload_n hx hb dL_law_488 rfl (lv_at hl 0 rfl) ?_
  refine lv_iload hx hb dL_law_489 (lv_at hl 5 rfl) ?_
  refine lv_iconst (v := nI 1) hx hb dL_law_491 (by decide) ?_
  refine lv_iadd hx hb dL_law_492 ?_
  refine q_ti (nI_add (8 * k) 1) ?_
  refine va_sld (i := nI ((8 * k) + 1)) hx hb hX hbl (Nat.not_le.mpr hbl) hS (vp_in_nI (n := 8 * k + 1) (by omega) (by omega)) dL_law_493 ?_
  refine q_ti (y := x1) (by rw [hx1, nI_clamp (by omega)]) ?_
  refine lv_aload_n hx hb dL_law_494 rfl (lv_at hl 0 rfl) ?_
  refine lv_iload hx hb dL_law_495 (lv_at hl 5 rfl) ?_
  refine lv_iconst (v := nI 2) hx hb dL_law_497 (by decide) ?_
  refine lv_iadd hx hb dL_law_498 ?_
  refine q_ti (nI_add (8 * k) 2) ?_
  refine va_sld (i := nI ((8 * k) + 2)) hx hb hX hbl (Nat.not_le.mpr hbl) hS (vp_in_nI (n := 8 * k + 2) (by omega) (by omega)) dL_law_499 ?_
  refine q_ti (y := x2) (by rw [hx2, nI_clamp (by omega)]) ?_
  refine lv_aload_n hx hb dL_law_500 rfl (lv_at hl 3 rfl) ?_
  refine q_wv (vx_runSW (As := [.ref (ad 0 0), .int (x1), .int (x2), .ref (o1)]) (rest := []) ⟨hx, hb, hml, hown, hts⟩ M1 (vx_cwSW 4 hts gL_law_L_wordAt rfl rfl rfl (by decide +kernel) ⟨by show fr + 1 ≤ 21; omega, by show 8 + (5 + 11) + lo ≤ 10922; omega⟩) ⟨qLg.blind, qLg.pre hC hW (hD.z hZ0 hS) (hD.up hhz) hzT hzN hat1⟩ rfl rfl hl.1 rfl (lv_room (Nat.le_of_ble_eq_true rfl)) dL_law_501 ⟨by show cells + mc ≤ 603072; omega, by show slots + ms ≤ 7223402; omega⟩) hS hD.a1 hD.a1 (fun H1 locs hP9 hz1 hk1 hS => ?_)
  obtain ⟨ad9, hAE, hW, f3, hat1, hv1⟩ := hP9
  have hrW := hD.w1 hrW hk1
  have hat2 := hD.c1 hat2 hk1
  have hhz := Nat.le_trans hhz hz1
  refine lv_istore (lv' := [(6, .int (nI K)), (0, .ref (b)), (1, .ref (ad 0 0)), (2, .ref (bd 0 0)), (3, .ref (o1)), (4, .ref (o2)), (5, .int (nI (8 * k)))]) hx hb dL_law_504 hl (by decide) rfl (fun ls hl => ?_)
  refine lv_aload_n hx hb dL_law_506 rfl (lv_at hl 3 rfl) ?_
  refine lv_aload_n hx hb dL_law_507 rfl (lv_at hl 1 rfl) ?_
  refine lv_iload hx hb dL_law_508 (lv_at hl 6 rfl) ?_
  refine lv_iconst (v := nI 1) hx hb dL_law_510 (by decide) ?_
  refine lv_iadd hx hb dL_law_511 ?_
  refine q_ti (nI_add (8 * k) 1) ?_
  refine va_sld (i := nI ((8 * k) + 1)) hx hb hX hbl (Nat.not_le.mpr hbl) hS (vp_in_nI (n := 8 * k + 1) (by omega) (by omega)) dL_law_512 ?_
  refine q_ti (y := x1) (by rw [hx1, nI_clamp (by omega)]) ?_
  refine lv_aload_n hx hb dL_law_513 rfl (lv_at hl 1 rfl) ?_
  refine lv_iload hx hb dL_law_514 (lv_at hl 6 rfl) ?_
  refine lv_iconst (v := nI 2) hx hb dL_law_516 (by decide) ?_
  refine lv_iadd hx hb dL_law_517 ?_
  refine q_ti (nI_add (8 * k) 2) ?_
  refine va_sld (i := nI ((8 * k) + 2)) hx hb hX hbl (Nat.not_le.mpr hbl) hS (vp_in_nI (n := 8 * k + 2) (by omega) (by omega)) dL_law_518 ?_
  refine q_ti (y := x2) (by rw [hx2, nI_clamp (by omega)]) ?_
  refine q_wv (va_runV (As := [.int (x1), .int (x2)]) (rest := []) ⟨hx, hb, hml, hown, hts⟩ M2 (cwV 2 hts gL_law_X8_wordAt rfl rfl rfl (by decide +kernel) ⟨by show fr2 + 1 ≤ 21; omega, by show 8 + (3 + 11) + lo2 ≤ 10922; omega⟩) ⟨rR.blind, qrecv hC (hrW.to rLV0) rfl, rR.pre hC hrW⟩ rfl rfl hl.1 rfl (lv_room (Nat.le_of_ble_eq_true rfl)) dL_law_519 ⟨by show cells + mc + 0 ≤ 603072; omega, by show slots + ms + 0 ≤ 7223402; omega⟩) hS hD.b hD.b (fun H2 locs hrW hz2 hk2 hS => ?_)
  have hW := hD.wB hW hk2
  have hat1 := hD.k1 hat1 hk2
  have hat2 := hD.k2 hat2 hk2
  have hhz := Nat.le_trans hhz hz2
  refine lv_istore (lv' := [(7, .int (v)), (6, .int (nI K)), (0, .ref (b)), (1, .ref (ad 0 0)), (2, .ref (bd 0 0)), (3, .ref (o1)), (4, .ref (o2)), (5, .int (nI (8 * k)))]) hx hb dL_law_522 hl (by decide) rfl (fun ls hl => ?_)
  refine lv_aload_n hx hb dL_law_524 rfl (lv_at hl 4 rfl) ?_
  refine q_v (va_runV (As := []) (rest := []) ⟨hx, hb, hml, hown, hts⟩ (m_rthrown l G B R2 bd hw2) (cwV 0 hts gL_law_X8_thrown rfl rfl rfl (by decide +kernel) ⟨Nat.le_of_ble_eq_true rfl, Nat.le_of_ble_eq_true rfl⟩) ⟨rR.blind, qrecv hC (hrW.to rLV0) rfl, rR.pre hC hrW⟩ rfl rfl hl.1 rfl (lv_room (Nat.le_of_ble_eq_true rfl)) dL_law_525 ⟨by show cells + mc + 0 + 0 ≤ 603072; omega, by show slots + ms + 0 + 0 ≤ 7223402; omega⟩) hS (fun _ h => h.elim) (fun locs hS => ?_)
  refine q_ti (y := nI K) (by rw [hK2]) ?_
  refine lv_iload hx hb dL_law_528 (lv_at hl 1 rfl) ?_
  refine q_eq (tgt := 535) hx hb (by omega) (by omega) dL_law_530 (by decide) (fun h5 => ?_) (fun h5 => (by omega))
  refine lv_iload hx hb dL_law_535 (lv_at hl 1 rfl) ?_
  refine q_ne0 (tgt := 552) hx hb (by omega) dL_law_537 (by decide) (fun h6 => ?_) (fun h6 => ?_)
  · skip
    refine lv_goto (tgt := 1997) hx hb dL_law_552 (by decide) ?_
    refine va_forget (fun q hq => hS.2.2 q hq) ?_
    refine W.widen (k := cells + 24) (n := slots + 14000) (by omega) (by omega) ?_
    exact next σ2 R2 ad9 _ ls ⟨hv2, hR2, hw2, hW, hrW, ⟨_, hat1⟩, ⟨_, hat2⟩, hS.forget, hhz⟩ (by rw [hAE 0 0 (by decide) (fun z => absurd z (by decide))]; exact lv_sub hl [2, 3, 4, 5, 6, 7] rfl)
  · skip
    refine lv_aload_n hx hb dL_law_540 rfl (lv_at hl 5 rfl) ?_
    refine lv_iconst (v := nI 0) hx hb dL_law_541 (by decide) ?_
    refine r_lald hx hb hC.1 hat1 2 rfl (i := 0) (by decide) (by decide) (v := (v).toInt64) (hv1 h6) dL_law_542 ?_
    refine lv_iload hx hb dL_law_543 (lv_at hl 0 rfl) ?_
    refine lv_i2l (v := (v).toInt64) hx hb dL_law_545 rfl ?_
    refine W.lcmp hx hb dL_law_546 ?_
    refine q_ti (y := nI 0) (l_cmp _) ?_
    refine q_eq0 (tgt := 552) hx hb (by decide) dL_law_547 (by decide) (fun h9 => ?_) (fun h9 => (by omega))
    refine lv_goto (tgt := 1997) hx hb dL_law_552 (by decide) ?_
    refine va_forget (fun q hq => hS.2.2 q hq) ?_
    refine W.widen (k := cells + 24) (n := slots + 14000) (by omega) (by omega) ?_
    exact next σ2 R2 ad9 _ ls ⟨hv2, hR2, hw2, hW, hrW, ⟨_, hat1⟩, ⟨_, hat2⟩, hS.forget, hhz⟩ (by rw [hAE 0 0 (by decide) (fun z => absurd z (by decide))]; exact lv_sub hl [2, 3, 4, 5, 6, 7] rfl)
set_option maxHeartbeats 4000000 in
set_option maxRecDepth 100000 in
theorem c_linesOf (cx : lC p l s m meth c b L xs G es o1 o2 hz A B) {k : Nat} (hk : 8 * k + 8 ≤ L) {σ ρ ad : QSt} {H : Heap} {ls : Array Slot} (hI : lS G es A B bd o1 o2 hz s σ ρ ad H) (hl : lv_has ls 9 [(0, .ref b), (1, .ref (ad 0 0)), (2, .ref (bd 0 0)), (3, .ref o1), (4, .ref o2), (5, .int (nI (8 * k)))]) {cells slots : Nat} {Q : State → Prop} (hroom : cells + 24 ≤ 603072 ∧ slots + 14000 ≤ 7223402)
    (next : ∀ (σ ρ ad : QSt) (H : Heap) (ls : Array Slot), lS G es A B bd o1 o2 hz s σ ρ ad H → lv_has ls 9 [(0, .ref b), (1, .ref (ad 0 0)), (2, .ref (bd 0 0)), (3, .ref o1), (4, .ref o2), (5, .int (nI (8 * k)))] → W p l e room_1 s m #[Value.ref b] below meth c H [] (cells + 24) (slots + 14000) Q (F0 m 1997 ls [])) : W p l e room_1 s m #[Value.ref b] below meth c H [] cells slots Q (F0 m 555 ls []) := by
  obtain ⟨hx, hb, hml, hown, hts, hlocks, hst, hX, hbl, hC, hZ0, hzT, hzN, hL, hD⟩ := cx
  obtain ⟨hv, hR, hw, hW, hrW, ⟨f1, hat1⟩, ⟨f2, hat2⟩, hS, hhz⟩ := hI
  have hF := hv.1.wf
  have hB := hF.1
  have hn := hF.n
  obtain ⟨x1, hx1⟩ : ∃ x, x = xs (8 * k + 1) := ⟨_, rfl⟩
  obtain ⟨K, mc, ms, fr, lo, fr2, lo2, σ2, R2, v, hK, hmc, hms, ⟨hr1, hr2, hr3, hr4⟩, hv2, hR2, hw2, hK2, hPv, M1, M2⟩ := lk_linesOf (l := l) (G := G) (es := es) (A := A) (B := B) (σ := σ) (ρ := ρ) (ad := ad) (bd := bd) (o1 := o1) (f1 := f1) hst hv hR hw hD.n1 x1
  refine lv_aload_n hx hb dL_law_555 rfl (lv_at hl 1 rfl) ?_
  refine lv_aload_n hx hb dL_law_556 rfl (lv_at hl 0 rfl) ?_
  refine lv_iload hx hb dL_law_557 (lv_at hl 5 rfl) ?_
  refine lv_iconst (v := nI 1) hx hb dL_law_559 (by decide) ?_
  refine lv_iadd hx hb dL_law_560 ?_
  refine q_ti (nI_add (8 * k) 1) ?_
  refine va_sld (i := nI ((8 * k) + 1)) hx hb hX hbl (Nat.not_le.mpr hbl) hS (vp_in_nI (n := 8 * k + 1) (by omega) (by omega)) dL_law_561 ?_
  refine q_ti (y := x1) (by rw [hx1, nI_clamp (by omega)]) ?_
  refine lv_aload_n hx hb dL_law_562 rfl (lv_at hl 3 rfl) ?_
  refine q_wv (vx_runSW (As := [.ref (ad 0 0), .int (x1), .ref (o1)]) (rest := []) ⟨hx, hb, hml, hown, hts⟩ M1 (vx_cwSW 3 hts gL_law_L_linesOf rfl rfl rfl (by decide +kernel) ⟨by show fr + 1 ≤ 21; omega, by show 8 + (4 + 11) + lo ≤ 10922; omega⟩) ⟨qLg.blind, qLg.pre hC hW (hD.z hZ0 hS) (hD.up hhz) hzT hzN hat1⟩ rfl rfl hl.1 rfl (lv_room (Nat.le_of_ble_eq_true rfl)) dL_law_563 ⟨by show cells + mc ≤ 603072; omega, by show slots + ms ≤ 7223402; omega⟩) hS hD.a1 hD.a1 (fun H1 locs hP9 hz1 hk1 hS => ?_)
  obtain ⟨ad9, hAE, hW, f3, hat1, hv1⟩ := hP9
  have hrW := hD.w1 hrW hk1
  have hat2 := hD.c1 hat2 hk1
  have hhz := Nat.le_trans hhz hz1
  refine lv_istore (lv' := [(6, .int (nI K)), (0, .ref (b)), (1, .ref (ad 0 0)), (2, .ref (bd 0 0)), (3, .ref (o1)), (4, .ref (o2)), (5, .int (nI (8 * k)))]) hx hb dL_law_566 hl (by decide) rfl (fun ls hl => ?_)
  refine lv_aload_n hx hb dL_law_568 rfl (lv_at hl 3 rfl) ?_
  refine lv_aload_n hx hb dL_law_569 rfl (lv_at hl 1 rfl) ?_
  refine lv_iload hx hb dL_law_570 (lv_at hl 6 rfl) ?_
  refine lv_iconst (v := nI 1) hx hb dL_law_572 (by decide) ?_
  refine lv_iadd hx hb dL_law_573 ?_
  refine q_ti (nI_add (8 * k) 1) ?_
  refine va_sld (i := nI ((8 * k) + 1)) hx hb hX hbl (Nat.not_le.mpr hbl) hS (vp_in_nI (n := 8 * k + 1) (by omega) (by omega)) dL_law_574 ?_
  refine q_ti (y := x1) (by rw [hx1, nI_clamp (by omega)]) ?_
  refine q_wv (va_runV (As := [.int (x1)]) (rest := []) ⟨hx, hb, hml, hown, hts⟩ M2 (cwV 1 hts gL_law_X8_linesOf rfl rfl rfl (by decide +kernel) ⟨by show fr2 + 1 ≤ 21; omega, by show 8 + (4 + 11) + lo2 ≤ 10922; omega⟩) ⟨rR.blind, qrecv hC (hrW.to rLV0) rfl, rR.pre hC hrW⟩ rfl rfl hl.1 rfl (lv_room (Nat.le_of_ble_eq_true rfl)) dL_law_575 ⟨by show cells + mc + 0 ≤ 603072; omega, by show slots + ms + 0 ≤ 7223402; omega⟩) hS hD.b hD.b (fun H2 locs hrW hz2 hk2 hS => ?_)
  have hW := hD.wB hW hk2
  have hat1 := hD.k1 hat1 hk2
  have hat2 := hD.k2 hat2 hk2
  have hhz := Nat.le_trans hhz hz2
  refine lv_istore (lv' := [(7, .int (v)), (6, .int (nI K)), (0, .ref (b)), (1, .ref (ad 0 0)), (2, .ref (bd 0 0)), (3, .ref (o1)), (4, .ref (o2)), (5, .int (nI (8 * k)))]) hx hb dL_law_578 hl (by decide) rfl (fun ls hl => ?_)
  refine lv_aload_n hx hb dL_law_580 rfl (lv_at hl 4 rfl) ?_
  refine q_v (va_runV (As := []) (rest := []) ⟨hx, hb, hml, hown, hts⟩ (m_rthrown l G B R2 bd hw2) (cwV 0 hts gL_law_X8_thrown rfl rfl rfl (by decide +kernel) ⟨Nat.le_of_ble_eq_true rfl, Nat.le_of_ble_eq_true rfl⟩) ⟨rR.blind, qrecv hC (hrW.to rLV0) rfl, rR.pre hC hrW⟩ rfl rfl hl.1 rfl (lv_room (Nat.le_of_ble_eq_true rfl)) dL_law_581 ⟨by show cells + mc + 0 + 0 ≤ 603072; omega, by show slots + ms + 0 + 0 ≤ 7223402; omega⟩) hS (fun _ h => h.elim) (fun locs hS => ?_)
  refine q_ti (y := nI K) (by rw [hK2]) ?_
  refine lv_iload hx hb dL_law_584 (lv_at hl 1 rfl) ?_
  refine q_eq (tgt := 591) hx hb (by omega) (by omega) dL_law_586 (by decide) (fun h5 => ?_) (fun h5 => (by omega))
  refine lv_iload hx hb dL_law_591 (lv_at hl 1 rfl) ?_
  refine q_ne0 (tgt := 608) hx hb (by omega) dL_law_593 (by decide) (fun h6 => ?_) (fun h6 => ?_)
  · skip
    refine lv_goto (tgt := 1997) hx hb dL_law_608 (by decide) ?_
    refine va_forget (fun q hq => hS.2.2 q hq) ?_
    refine W.widen (k := cells + 24) (n := slots + 14000) (by omega) (by omega) ?_
    exact next σ2 R2 ad9 _ ls ⟨hv2, hR2, hw2, hW, hrW, ⟨_, hat1⟩, ⟨_, hat2⟩, hS.forget, hhz⟩ (by rw [hAE 0 0 (by decide) (fun z => absurd z (by decide))]; exact lv_sub hl [2, 3, 4, 5, 6, 7] rfl)
  · skip
    refine lv_aload_n hx hb dL_law_596 rfl (lv_at hl 5 rfl) ?_
    refine lv_iconst (v := nI 0) hx hb dL_law_597 (by decide) ?_
    refine r_lald hx hb hC.1 hat1 2 rfl (i := 0) (by decide) (by decide) (v := (v).toInt64) (hv1 h6) dL_law_598 ?_
    refine lv_iload hx hb dL_law_599 (lv_at hl 0 rfl) ?_
    refine lv_i2l (v := (v).toInt64) hx hb dL_law_601 rfl ?_
    refine W.lcmp hx hb dL_law_602 ?_
    refine q_ti (y := nI 0) (l_cmp _) ?_
    refine q_eq0 (tgt := 608) hx hb (by decide) dL_law_603 (by decide) (fun h9 => ?_) (fun h9 => (by omega))
    refine lv_goto (tgt := 1997) hx hb dL_law_608 (by decide) ?_
    refine va_forget (fun q hq => hS.2.2 q hq) ?_
    refine W.widen (k := cells + 24) (n := slots + 14000) (by omega) (by omega) ?_
    exact next σ2 R2 ad9 _ ls ⟨hv2, hR2, hw2, hW, hrW, ⟨_, hat1⟩, ⟨_, hat2⟩, hS.forget, hhz⟩ (by rw [hAE 0 0 (by decide) (fun z => absurd z (by decide))]; exact lv_sub hl [2, 3, 4, 5, 6, 7] rfl)
set_option maxHeartbeats 4000000 in
set_option maxRecDepth 100000 in
theorem c_values (cx : lC p l s m meth c b L xs G es o1 o2 hz A B) {k : Nat} (hk : 8 * k + 8 ≤ L) {σ ρ ad : QSt} {H : Heap} {ls : Array Slot} (hI : lS G es A B bd o1 o2 hz s σ ρ ad H) (hl : lv_has ls 9 [(0, .ref b), (1, .ref (ad 0 0)), (2, .ref (bd 0 0)), (3, .ref o1), (4, .ref o2), (5, .int (nI (8 * k)))]) {cells slots : Nat} {Q : State → Prop} (hroom : cells + 24 ≤ 603072 ∧ slots + 14000 ≤ 7223402)
    (next : ∀ (σ ρ ad : QSt) (H : Heap) (ls : Array Slot), lS G es A B bd o1 o2 hz s σ ρ ad H → lv_has ls 9 [(0, .ref b), (1, .ref (ad 0 0)), (2, .ref (bd 0 0)), (3, .ref o1), (4, .ref o2), (5, .int (nI (8 * k)))] → W p l e room_1 s m #[Value.ref b] below meth c H [] (cells + 24) (slots + 14000) Q (F0 m 1997 ls [])) : W p l e room_1 s m #[Value.ref b] below meth c H [] cells slots Q (F0 m 611 ls []) := by
  obtain ⟨hx, hb, hml, hown, hts, hlocks, hst, hX, hbl, hC, hZ0, hzT, hzN, hL, hD⟩ := cx
  obtain ⟨hv, hR, hw, hW, hrW, ⟨f1, hat1⟩, ⟨f2, hat2⟩, hS, hhz⟩ := hI
  have hF := hv.1.wf
  have hB := hF.1
  have hn := hF.n
  obtain ⟨x1, hx1⟩ : ∃ x, x = xs (8 * k + 1) := ⟨_, rfl⟩
  obtain ⟨x2, hx2⟩ : ∃ x, x = xs (8 * k + 2) := ⟨_, rfl⟩
  obtain ⟨K, mc, ms, fr, lo, fr2, lo2, σ2, R2, v, hK, hmc, hms, ⟨hr1, hr2, hr3, hr4⟩, hv2, hR2, hw2, hK2, hPv, M1, M2⟩ := lk_values (l := l) (G := G) (es := es) (A := A) (B := B) (σ := σ) (ρ := ρ) (ad := ad) (bd := bd) (o1 := o1) (f1 := f1) hst hv hR hw hD.n1 x1 x2
  refine lv_aload_n hx hb dL_law_611 rfl (lv_at hl 1 rfl) ?_
  refine lv_aload_n hx hb dL_law_612 rfl (lv_at hl 0 rfl) ?_
  refine lv_iload hx hb dL_law_613 (lv_at hl 5 rfl) ?_
  refine lv_iconst (v := nI 1) hx hb dL_law_615 (by decide) ?_
  refine lv_iadd hx hb dL_law_616 ?_
  refine q_ti (nI_add (8 * k) 1) ?_
  refine va_sld (i := nI ((8 * k) + 1)) hx hb hX hbl (Nat.not_le.mpr hbl) hS (vp_in_nI (n := 8 * k + 1) (by omega) (by omega)) dL_law_617 ?_
  refine q_ti (y := x1) (by rw [hx1, nI_clamp (by omega)]) ?_
  refine lv_aload_n hx hb dL_law_618 rfl (lv_at hl 0 rfl) ?_
  refine lv_iload hx hb dL_law_619 (lv_at hl 5 rfl) ?_
  refine lv_iconst (v := nI 2) hx hb dL_law_621 (by decide) ?_
  refine lv_iadd hx hb dL_law_622 ?_
  refine q_ti (nI_add (8 * k) 2) ?_
  refine va_sld (i := nI ((8 * k) + 2)) hx hb hX hbl (Nat.not_le.mpr hbl) hS (vp_in_nI (n := 8 * k + 2) (by omega) (by omega)) dL_law_623 ?_
  refine q_ti (y := x2) (by rw [hx2, nI_clamp (by omega)]) ?_
  refine lv_aload_n hx hb dL_law_624 rfl (lv_at hl 3 rfl) ?_
  refine q_wv (vx_runSW (As := [.ref (ad 0 0), .int (x1), .int (x2), .ref (o1)]) (rest := []) ⟨hx, hb, hml, hown, hts⟩ M1 (vx_cwSW 4 hts gL_law_L_values rfl rfl rfl (by decide +kernel) ⟨by show fr + 1 ≤ 21; omega, by show 8 + (5 + 11) + lo ≤ 10922; omega⟩) ⟨qLg.blind, qLg.pre hC hW (hD.z hZ0 hS) (hD.up hhz) hzT hzN hat1⟩ rfl rfl hl.1 rfl (lv_room (Nat.le_of_ble_eq_true rfl)) dL_law_625 ⟨by show cells + mc ≤ 603072; omega, by show slots + ms ≤ 7223402; omega⟩) hS hD.a1 hD.a1 (fun H1 locs hP9 hz1 hk1 hS => ?_)
  obtain ⟨ad9, hAE, hW, f3, hat1, hv1⟩ := hP9
  have hrW := hD.w1 hrW hk1
  have hat2 := hD.c1 hat2 hk1
  have hhz := Nat.le_trans hhz hz1
  refine lv_istore (lv' := [(6, .int (nI K)), (0, .ref (b)), (1, .ref (ad 0 0)), (2, .ref (bd 0 0)), (3, .ref (o1)), (4, .ref (o2)), (5, .int (nI (8 * k)))]) hx hb dL_law_628 hl (by decide) rfl (fun ls hl => ?_)
  refine lv_aload_n hx hb dL_law_630 rfl (lv_at hl 3 rfl) ?_
  refine lv_aload_n hx hb dL_law_631 rfl (lv_at hl 1 rfl) ?_
  refine lv_iload hx hb dL_law_632 (lv_at hl 6 rfl) ?_
  refine lv_iconst (v := nI 1) hx hb dL_law_634 (by decide) ?_
  refine lv_iadd hx hb dL_law_635 ?_
  refine q_ti (nI_add (8 * k) 1) ?_
  refine va_sld (i := nI ((8 * k) + 1)) hx hb hX hbl (Nat.not_le.mpr hbl) hS (vp_in_nI (n := 8 * k + 1) (by omega) (by omega)) dL_law_636 ?_
  refine q_ti (y := x1) (by rw [hx1, nI_clamp (by omega)]) ?_
  refine lv_aload_n hx hb dL_law_637 rfl (lv_at hl 1 rfl) ?_
  refine lv_iload hx hb dL_law_638 (lv_at hl 6 rfl) ?_
  refine lv_iconst (v := nI 2) hx hb dL_law_640 (by decide) ?_
  refine lv_iadd hx hb dL_law_641 ?_
  refine q_ti (nI_add (8 * k) 2) ?_
  refine va_sld (i := nI ((8 * k) + 2)) hx hb hX hbl (Nat.not_le.mpr hbl) hS (vp_in_nI (n := 8 * k + 2) (by omega) (by omega)) dL_law_642 ?_
  refine q_ti (y := x2) (by rw [hx2, nI_clamp (by omega)]) ?_
  refine q_wv (va_runV (As := [.int (x1), .int (x2)]) (rest := []) ⟨hx, hb, hml, hown, hts⟩ M2 (cwV 2 hts gL_law_X8_values rfl rfl rfl (by decide +kernel) ⟨by show fr2 + 1 ≤ 21; omega, by show 8 + (7 + 11) + lo2 ≤ 10922; omega⟩) ⟨rR.blind, qrecv hC (hrW.to rLV0) rfl, rR.pre hC hrW⟩ rfl rfl hl.1 rfl (lv_room (Nat.le_of_ble_eq_true rfl)) dL_law_643 ⟨by show cells + mc + 0 ≤ 603072; omega, by show slots + ms + 0 ≤ 7223402; omega⟩) hS hD.b hD.b (fun H2 locs hrW hz2 hk2 hS => ?_)
  have hW := hD.wB hW hk2
  have hat1 := hD.k1 hat1 hk2
  have hat2 := hD.k2 hat2 hk2
  have hhz := Nat.le_trans hhz hz2
  refine lv_istore (lv' := [(7, .int (v)), (6, .int (nI K)), (0, .ref (b)), (1, .ref (ad 0 0)), (2, .ref (bd 0 0)), (3, .ref (o1)), (4, .ref (o2)), (5, .int (nI (8 * k)))]) hx hb dL_law_646 hl (by decide) rfl (fun ls hl => ?_)
  refine lv_aload_n hx hb dL_law_648 rfl (lv_at hl 4 rfl) ?_
  refine q_v (va_runV (As := []) (rest := []) ⟨hx, hb, hml, hown, hts⟩ (m_rthrown l G B R2 bd hw2) (cwV 0 hts gL_law_X8_thrown rfl rfl rfl (by decide +kernel) ⟨Nat.le_of_ble_eq_true rfl, Nat.le_of_ble_eq_true rfl⟩) ⟨rR.blind, qrecv hC (hrW.to rLV0) rfl, rR.pre hC hrW⟩ rfl rfl hl.1 rfl (lv_room (Nat.le_of_ble_eq_true rfl)) dL_law_649 ⟨by show cells + mc + 0 + 0 ≤ 603072; omega, by show slots + ms + 0 + 0 ≤ 7223402; omega⟩) hS (fun _ h => h.elim) (fun locs hS => ?_)
  refine q_ti (y := nI K) (by rw [hK2]) ?_
  refine lv_iload hx hb dL_law_652 (lv_at hl 1 rfl) ?_
  refine q_eq (tgt := 659) hx hb (by omega) (by omega) dL_law_654 (by decide) (fun h5 => ?_) (fun h5 => (by omega))
  refine lv_iload hx hb dL_law_659 (lv_at hl 1 rfl) ?_
  refine q_ne0 (tgt := 676) hx hb (by omega) dL_law_661 (by decide) (fun h6 => ?_) (fun h6 => ?_)
  · skip
    refine lv_goto (tgt := 1997) hx hb dL_law_676 (by decide) ?_
    refine va_forget (fun q hq => hS.2.2 q hq) ?_
    refine W.widen (k := cells + 24) (n := slots + 14000) (by omega) (by omega) ?_
    exact next σ2 R2 ad9 _ ls ⟨hv2, hR2, hw2, hW, hrW, ⟨_, hat1⟩, ⟨_, hat2⟩, hS.forget, hhz⟩ (by rw [hAE 0 0 (by decide) (fun z => absurd z (by decide))]; exact lv_sub hl [2, 3, 4, 5, 6, 7] rfl)
  · skip
    refine lv_aload_n hx hb dL_law_664 rfl (lv_at hl 5 rfl) ?_
    refine lv_iconst (v := nI 0) hx hb dL_law_665 (by decide) ?_
    refine r_lald hx hb hC.1 hat1 2 rfl (i := 0) (by decide) (by decide) (v := (v).toInt64) (hv1 h6) dL_law_666 ?_
    refine lv_iload hx hb dL_law_667 (lv_at hl 0 rfl) ?_
    refine lv_i2l (v := (v).toInt64) hx hb dL_law_669 rfl ?_
    refine W.lcmp hx hb dL_law_670 ?_
    refine q_ti (y := nI 0) (l_cmp _) ?_
    refine q_eq0 (tgt := 676) hx hb (by decide) dL_law_671 (by decide) (fun h9 => ?_) (fun h9 => (by omega))
    refine lv_goto (tgt := 1997) hx hb dL_law_676 (by decide) ?_
    refine va_forget (fun q hq => hS.2.2 q hq) ?_
    refine W.widen (k := cells + 24) (n := slots + 14000) (by omega) (by omega) ?_
    exact next σ2 R2 ad9 _ ls ⟨hv2, hR2, hw2, hW, hrW, ⟨_, hat1⟩, ⟨_, hat2⟩, hS.forget, hhz⟩ (by rw [hAE 0 0 (by decide) (fun z => absurd z (by decide))]; exact lv_sub hl [2, 3, 4, 5, 6, 7] rfl)
end CS
