section CS
variable {p : Program} {l : Launch} {e : Env} {s : State} {m : MethodId} {below : List Frame} {meth : Method} {c : Code} {b L : Nat} {xs : Nat → Int32} {G : QG} {es o1 o2 hz : Nat} {A B : Nat → Prop} {bd : QSt}
set_option maxHeartbeats 4000000 in
set_option maxRecDepth 100000 in
theorem c_counted (cx : lC p l s m meth c b L xs G es o1 o2 hz A B) {k : Nat} (hk : 8 * k + 8 ≤ L) {σ ρ ad : QSt} {H : Heap} {ls : Array Slot} (hI : lS G es A B bd o1 o2 hz s σ ρ ad H) (hl : lv_has ls 9 [(0, .ref b), (1, .ref (ad 0 0)), (2, .ref (bd 0 0)), (3, .ref o1), (4, .ref o2), (5, .int (nI (8 * k)))]) {cells slots : Nat} {Q : State → Prop} (hroom : cells + 24 ≤ 603072 ∧ slots + 14000 ≤ 7223402)
    (next : ∀ (σ ρ ad : QSt) (H : Heap) (ls : Array Slot), lS G es A B bd o1 o2 hz s σ ρ ad H → lv_has ls 9 [(0, .ref b), (1, .ref (ad 0 0)), (2, .ref (bd 0 0)), (3, .ref o1), (4, .ref o2), (5, .int (nI (8 * k)))] → W p l e room_1 s m #[Value.ref b] below meth c H [] (cells + 24) (slots + 14000) Q (F0 m 1997 ls [])) : W p l e room_1 s m #[Value.ref b] below meth c H [] cells slots Q (F0 m 1227 ls []) := by
  obtain ⟨hx, hb, hml, hown, hts, hlocks, hst, hX, hbl, hC, hZ0, hzT, hzN, hL, hD⟩ := cx
  obtain ⟨hv, hR, hw, hW, hrW, ⟨f1, hat1⟩, ⟨f2, hat2⟩, hS, hhz⟩ := hI
  have hF := hv.1.wf
  have hB := hF.1
  have hn := hF.n
  obtain ⟨x1, hx1⟩ : ∃ x, x = xs (8 * k + 1) := ⟨_, rfl⟩
  obtain ⟨K, mc, ms, fr, lo, fr2, lo2, σ2, R2, v, hK, hmc, hms, ⟨hr1, hr2, hr3, hr4⟩, hv2, hR2, hw2, hK2, hPv, M1, M2⟩ := lk_counted (l := l) (G := G) (es := es) (A := A) (B := B) (σ := σ) (ρ := ρ) (ad := ad) (bd := bd) (o1 := o1) (f1 := f1) hst hv hR hw hD.n1 x1
  refine lv_aload_n hx hb dL_law_1227 rfl (lv_at hl 1 rfl) ?_
  refine lv_aload_n hx hb dL_law_1228 rfl (lv_at hl 0 rfl) ?_
  refine lv_iload hx hb dL_law_1229 (lv_at hl 5 rfl) ?_
  refine lv_iconst (v := nI 1) hx hb dL_law_1231 (by decide) ?_
  refine lv_iadd hx hb dL_law_1232 ?_
  refine q_ti (nI_add (8 * k) 1) ?_
  refine va_sld (i := nI ((8 * k) + 1)) hx hb hX hbl (Nat.not_le.mpr hbl) hS (vp_in_nI (n := 8 * k + 1) (by omega) (by omega)) dL_law_1233 ?_
  refine q_ti (y := x1) (by rw [hx1, nI_clamp (by omega)]) ?_
  refine lv_aload_n hx hb dL_law_1234 rfl (lv_at hl 3 rfl) ?_
  refine q_wv (vx_runSW (As := [.ref (ad 0 0), .int (x1), .ref (o1)]) (rest := []) ⟨hx, hb, hml, hown, hts⟩ M1 (vx_cwSW 3 hts gL_law_L_counted rfl rfl rfl (by decide +kernel) ⟨by show fr + 1 ≤ 21; omega, by show 8 + (4 + 11) + lo ≤ 10922; omega⟩) ⟨qLg.blind, qLg.pre hC hW (hD.z hZ0 hS) (hD.up hhz) hzT hzN hat1⟩ rfl rfl hl.1 rfl (lv_room (Nat.le_of_ble_eq_true rfl)) dL_law_1235 ⟨by show cells + mc ≤ 603072; omega, by show slots + ms ≤ 7223402; omega⟩) hS hD.a1 hD.a1 (fun H1 locs hP9 hz1 hk1 hS => ?_)
  obtain ⟨ad9, hAE, hW, f3, hat1, hv1⟩ := hP9
  have hrW := hD.w1 hrW hk1
  have hat2 := hD.c1 hat2 hk1
  have hhz := Nat.le_trans hhz hz1
  refine lv_istore (lv' := [(6, .int (nI K)), (0, .ref (b)), (1, .ref (ad 0 0)), (2, .ref (bd 0 0)), (3, .ref (o1)), (4, .ref (o2)), (5, .int (nI (8 * k)))]) hx hb dL_law_1238 hl (by decide) rfl (fun ls hl => ?_)
  refine lv_aload_n hx hb dL_law_1240 rfl (lv_at hl 3 rfl) ?_
  refine lv_aload_n hx hb dL_law_1241 rfl (lv_at hl 1 rfl) ?_
  refine lv_iload hx hb dL_law_1242 (lv_at hl 6 rfl) ?_
  refine lv_iconst (v := nI 1) hx hb dL_law_1244 (by decide) ?_
  refine lv_iadd hx hb dL_law_1245 ?_
  refine q_ti (nI_add (8 * k) 1) ?_
  refine va_sld (i := nI ((8 * k) + 1)) hx hb hX hbl (Nat.not_le.mpr hbl) hS (vp_in_nI (n := 8 * k + 1) (by omega) (by omega)) dL_law_1246 ?_
  refine q_ti (y := x1) (by rw [hx1, nI_clamp (by omega)]) ?_
  refine q_wv (va_runV (As := [.int (x1)]) (rest := []) ⟨hx, hb, hml, hown, hts⟩ M2 (cwV 1 hts gL_law_X8_counted rfl rfl rfl (by decide +kernel) ⟨by show fr2 + 1 ≤ 21; omega, by show 8 + (2 + 11) + lo2 ≤ 10922; omega⟩) ⟨rR.blind, qrecv hC (hrW.to rLV0) rfl, rR.pre hC hrW⟩ rfl rfl hl.1 rfl (lv_room (Nat.le_of_ble_eq_true rfl)) dL_law_1247 ⟨by show cells + mc + 0 ≤ 603072; omega, by show slots + ms + 0 ≤ 7223402; omega⟩) hS hD.b hD.b (fun H2 locs hrW hz2 hk2 hS => ?_)
  have hW := hD.wB hW hk2
  have hat1 := hD.k1 hat1 hk2
  have hat2 := hD.k2 hat2 hk2
  have hhz := Nat.le_trans hhz hz2
  refine lv_istore (lv' := [(7, .int (v)), (6, .int (nI K)), (0, .ref (b)), (1, .ref (ad 0 0)), (2, .ref (bd 0 0)), (3, .ref (o1)), (4, .ref (o2)), (5, .int (nI (8 * k)))]) hx hb dL_law_1250 hl (by decide) rfl (fun ls hl => ?_)
  refine lv_aload_n hx hb dL_law_1252 rfl (lv_at hl 4 rfl) ?_
  refine q_v (va_runV (As := []) (rest := []) ⟨hx, hb, hml, hown, hts⟩ (m_rthrown l G B R2 bd hw2) (cwV 0 hts gL_law_X8_thrown rfl rfl rfl (by decide +kernel) ⟨Nat.le_of_ble_eq_true rfl, Nat.le_of_ble_eq_true rfl⟩) ⟨rR.blind, qrecv hC (hrW.to rLV0) rfl, rR.pre hC hrW⟩ rfl rfl hl.1 rfl (lv_room (Nat.le_of_ble_eq_true rfl)) dL_law_1253 ⟨by show cells + mc + 0 + 0 ≤ 603072; omega, by show slots + ms + 0 + 0 ≤ 7223402; omega⟩) hS (fun _ h => h.elim) (fun locs hS => ?_)
  refine q_ti (y := nI K) (by rw [hK2]) ?_
  refine lv_iload hx hb dL_law_1256 (lv_at hl 1 rfl) ?_
  refine q_eq (tgt := 1263) hx hb (by omega) (by omega) dL_law_1258 (by decide) (fun h5 => ?_) (fun h5 => (by omega))
  refine lv_iload hx hb dL_law_1263 (lv_at hl 1 rfl) ?_
  refine q_ne0 (tgt := 1280) hx hb (by omega) dL_law_1265 (by decide) (fun h6 => ?_) (fun h6 => ?_)
  · skip
    refine lv_goto (tgt := 1997) hx hb dL_law_1280 (by decide) ?_
    refine va_forget (fun q hq => hS.2.2 q hq) ?_
    refine W.widen (k := cells + 24) (n := slots + 14000) (by omega) (by omega) ?_
    exact next σ2 R2 ad9 _ ls ⟨hv2, hR2, hw2, hW, hrW, ⟨_, hat1⟩, ⟨_, hat2⟩, hS.forget, hhz⟩ (by rw [hAE 0 0 (by decide) (fun z => absurd z (by decide))]; exact lv_sub hl [2, 3, 4, 5, 6, 7] rfl)
  · skip
    refine lv_aload_n hx hb dL_law_1268 rfl (lv_at hl 5 rfl) ?_
    refine lv_iconst (v := nI 0) hx hb dL_law_1269 (by decide) ?_
    refine r_lald hx hb hC.1 hat1 2 rfl (i := 0) (by decide) (by decide) (v := (v).toInt64) (hv1 h6) dL_law_1270 ?_
    refine lv_iload hx hb dL_law_1271 (lv_at hl 0 rfl) ?_
    refine lv_i2l (v := (v).toInt64) hx hb dL_law_1273 rfl ?_
    refine W.lcmp hx hb dL_law_1274 ?_
    refine q_ti (y := nI 0) (l_cmp _) ?_
    refine q_eq0 (tgt := 1280) hx hb (by decide) dL_law_1275 (by decide) (fun h9 => ?_) (fun h9 => (by omega))
    refine lv_goto (tgt := 1997) hx hb dL_law_1280 (by decide) ?_
    refine va_forget (fun q hq => hS.2.2 q hq) ?_
    refine W.widen (k := cells + 24) (n := slots + 14000) (by omega) (by omega) ?_
    exact next σ2 R2 ad9 _ ls ⟨hv2, hR2, hw2, hW, hrW, ⟨_, hat1⟩, ⟨_, hat2⟩, hS.forget, hhz⟩ (by rw [hAE 0 0 (by decide) (fun z => absurd z (by decide))]; exact lv_sub hl [2, 3, 4, 5, 6, 7] rfl)
set_option maxHeartbeats 4000000 in
set_option maxRecDepth 100000 in
theorem c_countedAnew (cx : lC p l s m meth c b L xs G es o1 o2 hz A B) {k : Nat} (hk : 8 * k + 8 ≤ L) {σ ρ ad : QSt} {H : Heap} {ls : Array Slot} (hI : lS G es A B bd o1 o2 hz s σ ρ ad H) (hl : lv_has ls 9 [(0, .ref b), (1, .ref (ad 0 0)), (2, .ref (bd 0 0)), (3, .ref o1), (4, .ref o2), (5, .int (nI (8 * k)))]) {cells slots : Nat} {Q : State → Prop} (hroom : cells + 24 ≤ 603072 ∧ slots + 14000 ≤ 7223402)
    (next : ∀ (σ ρ ad : QSt) (H : Heap) (ls : Array Slot), lS G es A B bd o1 o2 hz s σ ρ ad H → lv_has ls 9 [(0, .ref b), (1, .ref (ad 0 0)), (2, .ref (bd 0 0)), (3, .ref o1), (4, .ref o2), (5, .int (nI (8 * k)))] → W p l e room_1 s m #[Value.ref b] below meth c H [] (cells + 24) (slots + 14000) Q (F0 m 1997 ls [])) : W p l e room_1 s m #[Value.ref b] below meth c H [] cells slots Q (F0 m 1283 ls []) := by
  obtain ⟨hx, hb, hml, hown, hts, hlocks, hst, hX, hbl, hC, hZ0, hzT, hzN, hL, hD⟩ := cx
  obtain ⟨hv, hR, hw, hW, hrW, ⟨f1, hat1⟩, ⟨f2, hat2⟩, hS, hhz⟩ := hI
  have hF := hv.1.wf
  have hB := hF.1
  have hn := hF.n
  obtain ⟨x1, hx1⟩ : ∃ x, x = xs (8 * k + 1) := ⟨_, rfl⟩
  obtain ⟨K, mc, ms, fr, lo, fr2, lo2, σ2, R2, v, hK, hmc, hms, ⟨hr1, hr2, hr3, hr4⟩, hv2, hR2, hw2, hK2, hPv, M1, M2⟩ := lk_countedAnew (l := l) (G := G) (es := es) (A := A) (B := B) (σ := σ) (ρ := ρ) (ad := ad) (bd := bd) (o1 := o1) (f1 := f1) hst hv hR hw hD.n1 x1
  refine lv_aload_n hx hb dL_law_1283 rfl (lv_at hl 1 rfl) ?_
  refine lv_aload_n hx hb dL_law_1284 rfl (lv_at hl 0 rfl) ?_
  refine lv_iload hx hb dL_law_1285 (lv_at hl 5 rfl) ?_
  refine lv_iconst (v := nI 1) hx hb dL_law_1287 (by decide) ?_
  refine lv_iadd hx hb dL_law_1288 ?_
  refine q_ti (nI_add (8 * k) 1) ?_
  refine va_sld (i := nI ((8 * k) + 1)) hx hb hX hbl (Nat.not_le.mpr hbl) hS (vp_in_nI (n := 8 * k + 1) (by omega) (by omega)) dL_law_1289 ?_
  refine q_ti (y := x1) (by rw [hx1, nI_clamp (by omega)]) ?_
  refine lv_aload_n hx hb dL_law_1290 rfl (lv_at hl 3 rfl) ?_
  refine q_wv (vx_runSW (As := [.ref (ad 0 0), .int (x1), .ref (o1)]) (rest := []) ⟨hx, hb, hml, hown, hts⟩ M1 (vx_cwSW 3 hts gL_law_L_countedAnew rfl rfl rfl (by decide +kernel) ⟨by show fr + 1 ≤ 21; omega, by show 8 + (4 + 11) + lo ≤ 10922; omega⟩) ⟨qLg.blind, qLg.pre hC hW (hD.z hZ0 hS) (hD.up hhz) hzT hzN hat1⟩ rfl rfl hl.1 rfl (lv_room (Nat.le_of_ble_eq_true rfl)) dL_law_1291 ⟨by show cells + mc ≤ 603072; omega, by show slots + ms ≤ 7223402; omega⟩) hS hD.a1 hD.a1 (fun H1 locs hP9 hz1 hk1 hS => ?_)
  obtain ⟨ad9, hAE, hW, f3, hat1, hv1⟩ := hP9
  have hrW := hD.w1 hrW hk1
  have hat2 := hD.c1 hat2 hk1
  have hhz := Nat.le_trans hhz hz1
  refine lv_istore (lv' := [(6, .int (nI K)), (0, .ref (b)), (1, .ref (ad 0 0)), (2, .ref (bd 0 0)), (3, .ref (o1)), (4, .ref (o2)), (5, .int (nI (8 * k)))]) hx hb dL_law_1294 hl (by decide) rfl (fun ls hl => ?_)
  refine lv_aload_n hx hb dL_law_1296 rfl (lv_at hl 3 rfl) ?_
  refine lv_aload_n hx hb dL_law_1297 rfl (lv_at hl 1 rfl) ?_
  refine lv_iload hx hb dL_law_1298 (lv_at hl 6 rfl) ?_
  refine lv_iconst (v := nI 1) hx hb dL_law_1300 (by decide) ?_
  refine lv_iadd hx hb dL_law_1301 ?_
  refine q_ti (nI_add (8 * k) 1) ?_
  refine va_sld (i := nI ((8 * k) + 1)) hx hb hX hbl (Nat.not_le.mpr hbl) hS (vp_in_nI (n := 8 * k + 1) (by omega) (by omega)) dL_law_1302 ?_
  refine q_ti (y := x1) (by rw [hx1, nI_clamp (by omega)]) ?_
  refine q_wv (va_runV (As := [.int (x1)]) (rest := []) ⟨hx, hb, hml, hown, hts⟩ M2 (cwV 1 hts gL_law_X8_countedAnew rfl rfl rfl (by decide +kernel) ⟨by show fr2 + 1 ≤ 21; omega, by show 8 + (2 + 11) + lo2 ≤ 10922; omega⟩) ⟨rR.blind, qrecv hC (hrW.to rLV0) rfl, rR.pre hC hrW⟩ rfl rfl hl.1 rfl (lv_room (Nat.le_of_ble_eq_true rfl)) dL_law_1303 ⟨by show cells + mc + 0 ≤ 603072; omega, by show slots + ms + 0 ≤ 7223402; omega⟩) hS hD.b hD.b (fun H2 locs hrW hz2 hk2 hS => ?_)
  have hW := hD.wB hW hk2
  have hat1 := hD.k1 hat1 hk2
  have hat2 := hD.k2 hat2 hk2
  have hhz := Nat.le_trans hhz hz2
  refine lv_istore (lv' := [(7, .int (v)), (6, .int (nI K)), (0, .ref (b)), (1, .ref (ad 0 0)), (2, .ref (bd 0 0)), (3, .ref (o1)), (4, .ref (o2)), (5, .int (nI (8 * k)))]) hx hb dL_law_1306 hl (by decide) rfl (fun ls hl => ?_)
  refine lv_aload_n hx hb dL_law_1308 rfl (lv_at hl 4 rfl) ?_
  refine q_v (va_runV (As := []) (rest := []) ⟨hx, hb, hml, hown, hts⟩ (m_rthrown l G B R2 bd hw2) (cwV 0 hts gL_law_X8_thrown rfl rfl rfl (by decide +kernel) ⟨Nat.le_of_ble_eq_true rfl, Nat.le_of_ble_eq_true rfl⟩) ⟨rR.blind, qrecv hC (hrW.to rLV0) rfl, rR.pre hC hrW⟩ rfl rfl hl.1 rfl (lv_room (Nat.le_of_ble_eq_true rfl)) dL_law_1309 ⟨by show cells + mc + 0 + 0 ≤ 603072; omega, by show slots + ms + 0 + 0 ≤ 7223402; omega⟩) hS (fun _ h => h.elim) (fun locs hS => ?_)
  refine q_ti (y := nI K) (by rw [hK2]) ?_
  refine lv_iload hx hb dL_law_1312 (lv_at hl 1 rfl) ?_
  refine q_eq (tgt := 1319) hx hb (by omega) (by omega) dL_law_1314 (by decide) (fun h5 => ?_) (fun h5 => (by omega))
  refine lv_iload hx hb dL_law_1319 (lv_at hl 1 rfl) ?_
  refine q_ne0 (tgt := 1336) hx hb (by omega) dL_law_1321 (by decide) (fun h6 => ?_) (fun h6 => ?_)
  · skip
    refine lv_goto (tgt := 1997) hx hb dL_law_1336 (by decide) ?_
    refine va_forget (fun q hq => hS.2.2 q hq) ?_
    refine W.widen (k := cells + 24) (n := slots + 14000) (by omega) (by omega) ?_
    exact next σ2 R2 ad9 _ ls ⟨hv2, hR2, hw2, hW, hrW, ⟨_, hat1⟩, ⟨_, hat2⟩, hS.forget, hhz⟩ (by rw [hAE 0 0 (by decide) (fun z => absurd z (by decide))]; exact lv_sub hl [2, 3, 4, 5, 6, 7] rfl)
  · skip
    refine lv_aload_n hx hb dL_law_1324 rfl (lv_at hl 5 rfl) ?_
    refine lv_iconst (v := nI 0) hx hb dL_law_1325 (by decide) ?_
    refine r_lald hx hb hC.1 hat1 2 rfl (i := 0) (by decide) (by decide) (v := (v).toInt64) (hv1 h6) dL_law_1326 ?_
    refine lv_iload hx hb dL_law_1327 (lv_at hl 0 rfl) ?_
    refine lv_i2l (v := (v).toInt64) hx hb dL_law_1329 rfl ?_
    refine W.lcmp hx hb dL_law_1330 ?_
    refine q_ti (y := nI 0) (l_cmp _) ?_
    refine q_eq0 (tgt := 1336) hx hb (by decide) dL_law_1331 (by decide) (fun h9 => ?_) (fun h9 => (by omega))
    refine lv_goto (tgt := 1997) hx hb dL_law_1336 (by decide) ?_
    refine va_forget (fun q hq => hS.2.2 q hq) ?_
    refine W.widen (k := cells + 24) (n := slots + 14000) (by omega) (by omega) ?_
    exact next σ2 R2 ad9 _ ls ⟨hv2, hR2, hw2, hW, hrW, ⟨_, hat1⟩, ⟨_, hat2⟩, hS.forget, hhz⟩ (by rw [hAE 0 0 (by decide) (fun z => absurd z (by decide))]; exact lv_sub hl [2, 3, 4, 5, 6, 7] rfl)
set_option maxHeartbeats 4000000 in
set_option maxRecDepth 100000 in
theorem c_heldFor (cx : lC p l s m meth c b L xs G es o1 o2 hz A B) {k : Nat} (hk : 8 * k + 8 ≤ L) {σ ρ ad : QSt} {H : Heap} {ls : Array Slot} (hI : lS G es A B bd o1 o2 hz s σ ρ ad H) (hl : lv_has ls 9 [(0, .ref b), (1, .ref (ad 0 0)), (2, .ref (bd 0 0)), (3, .ref o1), (4, .ref o2), (5, .int (nI (8 * k)))]) {cells slots : Nat} {Q : State → Prop} (hroom : cells + 24 ≤ 603072 ∧ slots + 14000 ≤ 7223402)
    (next : ∀ (σ ρ ad : QSt) (H : Heap) (ls : Array Slot), lS G es A B bd o1 o2 hz s σ ρ ad H → lv_has ls 9 [(0, .ref b), (1, .ref (ad 0 0)), (2, .ref (bd 0 0)), (3, .ref o1), (4, .ref o2), (5, .int (nI (8 * k)))] → W p l e room_1 s m #[Value.ref b] below meth c H [] (cells + 24) (slots + 14000) Q (F0 m 1997 ls [])) : W p l e room_1 s m #[Value.ref b] below meth c H [] cells slots Q (F0 m 1339 ls []) := by
  obtain ⟨hx, hb, hml, hown, hts, hlocks, hst, hX, hbl, hC, hZ0, hzT, hzN, hL, hD⟩ := cx
  obtain ⟨hv, hR, hw, hW, hrW, ⟨f1, hat1⟩, ⟨f2, hat2⟩, hS, hhz⟩ := hI
  have hF := hv.1.wf
  have hB := hF.1
  have hn := hF.n
  obtain ⟨x1, hx1⟩ : ∃ x, x = xs (8 * k + 1) := ⟨_, rfl⟩
  obtain ⟨K, mc, ms, fr, lo, fr2, lo2, σ2, R2, v, hK, hmc, hms, ⟨hr1, hr2, hr3, hr4⟩, hv2, hR2, hw2, hK2, hPv, M1, M2⟩ := lk_heldFor (l := l) (G := G) (es := es) (A := A) (B := B) (σ := σ) (ρ := ρ) (ad := ad) (bd := bd) (o1 := o1) (f1 := f1) hst hv hR hw hD.n1 x1
  refine lv_aload_n hx hb dL_law_1339 rfl (lv_at hl 1 rfl) ?_
  refine lv_aload_n hx hb dL_law_1340 rfl (lv_at hl 0 rfl) ?_
  refine lv_iload hx hb dL_law_1341 (lv_at hl 5 rfl) ?_
  refine lv_iconst (v := nI 1) hx hb dL_law_1343 (by decide) ?_
  refine lv_iadd hx hb dL_law_1344 ?_
  refine q_ti (nI_add (8 * k) 1) ?_
  refine va_sld (i := nI ((8 * k) + 1)) hx hb hX hbl (Nat.not_le.mpr hbl) hS (vp_in_nI (n := 8 * k + 1) (by omega) (by omega)) dL_law_1345 ?_
  refine q_ti (y := x1) (by rw [hx1, nI_clamp (by omega)]) ?_
  refine lv_aload_n hx hb dL_law_1346 rfl (lv_at hl 3 rfl) ?_
  refine q_wv (vx_runSW (As := [.ref (ad 0 0), .int (x1), .ref (o1)]) (rest := []) ⟨hx, hb, hml, hown, hts⟩ M1 (vx_cwSW 3 hts gL_law_L_heldFor rfl rfl rfl (by decide +kernel) ⟨by show fr + 1 ≤ 21; omega, by show 8 + (4 + 11) + lo ≤ 10922; omega⟩) ⟨qLg.blind, qLg.pre hC hW (hD.z hZ0 hS) (hD.up hhz) hzT hzN hat1⟩ rfl rfl hl.1 rfl (lv_room (Nat.le_of_ble_eq_true rfl)) dL_law_1347 ⟨by show cells + mc ≤ 603072; omega, by show slots + ms ≤ 7223402; omega⟩) hS hD.a1 hD.a1 (fun H1 locs hP9 hz1 hk1 hS => ?_)
  obtain ⟨ad9, hAE, hW, f3, hat1, hv1⟩ := hP9
  have hrW := hD.w1 hrW hk1
  have hat2 := hD.c1 hat2 hk1
  have hhz := Nat.le_trans hhz hz1
  refine lv_istore (lv' := [(6, .int (nI K)), (0, .ref (b)), (1, .ref (ad 0 0)), (2, .ref (bd 0 0)), (3, .ref (o1)), (4, .ref (o2)), (5, .int (nI (8 * k)))]) hx hb dL_law_1350 hl (by decide) rfl (fun ls hl => ?_)
  refine lv_aload_n hx hb dL_law_1352 rfl (lv_at hl 3 rfl) ?_
  refine lv_aload_n hx hb dL_law_1353 rfl (lv_at hl 1 rfl) ?_
  refine lv_iload hx hb dL_law_1354 (lv_at hl 6 rfl) ?_
  refine lv_iconst (v := nI 1) hx hb dL_law_1356 (by decide) ?_
  refine lv_iadd hx hb dL_law_1357 ?_
  refine q_ti (nI_add (8 * k) 1) ?_
  refine va_sld (i := nI ((8 * k) + 1)) hx hb hX hbl (Nat.not_le.mpr hbl) hS (vp_in_nI (n := 8 * k + 1) (by omega) (by omega)) dL_law_1358 ?_
  refine q_ti (y := x1) (by rw [hx1, nI_clamp (by omega)]) ?_
  refine q_wv (va_runV (As := [.int (x1)]) (rest := []) ⟨hx, hb, hml, hown, hts⟩ M2 (cwV 1 hts gL_law_X8_heldFor rfl rfl rfl (by decide +kernel) ⟨by show fr2 + 1 ≤ 21; omega, by show 8 + (2 + 11) + lo2 ≤ 10922; omega⟩) ⟨rR.blind, qrecv hC (hrW.to rLV0) rfl, rR.pre hC hrW⟩ rfl rfl hl.1 rfl (lv_room (Nat.le_of_ble_eq_true rfl)) dL_law_1359 ⟨by show cells + mc + 0 ≤ 603072; omega, by show slots + ms + 0 ≤ 7223402; omega⟩) hS hD.b hD.b (fun H2 locs hrW hz2 hk2 hS => ?_)
  have hW := hD.wB hW hk2
  have hat1 := hD.k1 hat1 hk2
  have hat2 := hD.k2 hat2 hk2
  have hhz := Nat.le_trans hhz hz2
  refine lv_istore (lv' := [(7, .int (v)), (6, .int (nI K)), (0, .ref (b)), (1, .ref (ad 0 0)), (2, .ref (bd 0 0)), (3, .ref (o1)), (4, .ref (o2)), (5, .int (nI (8 * k)))]) hx hb dL_law_1362 hl (by decide) rfl (fun ls hl => ?_)
  refine lv_aload_n hx hb dL_law_1364 rfl (lv_at hl 4 rfl) ?_
  refine q_v (va_runV (As := []) (rest := []) ⟨hx, hb, hml, hown, hts⟩ (m_rthrown l G B R2 bd hw2) (cwV 0 hts gL_law_X8_thrown rfl rfl rfl (by decide +kernel) ⟨Nat.le_of_ble_eq_true rfl, Nat.le_of_ble_eq_true rfl⟩) ⟨rR.blind, qrecv hC (hrW.to rLV0) rfl, rR.pre hC hrW⟩ rfl rfl hl.1 rfl (lv_room (Nat.le_of_ble_eq_true rfl)) dL_law_1365 ⟨by show cells + mc + 0 + 0 ≤ 603072; omega, by show slots + ms + 0 + 0 ≤ 7223402; omega⟩) hS (fun _ h => h.elim) (fun locs hS => ?_)
  refine q_ti (y := nI K) (by rw [hK2]) ?_
  refine lv_iload hx hb dL_law_1368 (lv_at hl 1 rfl) ?_
  refine q_eq (tgt := 1375) hx hb (by omega) (by omega) dL_law_1370 (by decide) (fun h5 => ?_) (fun h5 => (by omega))
  refine lv_iload hx hb dL_law_1375 (lv_at hl 1 rfl) ?_
  refine q_ne0 (tgt := 1392) hx hb (by omega) dL_law_1377 (by decide) (fun h6 => ?_) (fun h6 => ?_)
  · skip
    refine lv_goto (tgt := 1997) hx hb dL_law_1392 (by decide) ?_
    refine va_forget (fun q hq => hS.2.2 q hq) ?_
    refine W.widen (k := cells + 24) (n := slots + 14000) (by omega) (by omega) ?_
    exact next σ2 R2 ad9 _ ls ⟨hv2, hR2, hw2, hW, hrW, ⟨_, hat1⟩, ⟨_, hat2⟩, hS.forget, hhz⟩ (by rw [hAE 0 0 (by decide) (fun z => absurd z (by decide))]; exact lv_sub hl [2, 3, 4, 5, 6, 7] rfl)
  · skip
    refine lv_aload_n hx hb dL_law_1380 rfl (lv_at hl 5 rfl) ?_
    refine lv_iconst (v := nI 0) hx hb dL_law_1381 (by decide) ?_
    refine r_lald hx hb hC.1 hat1 2 rfl (i := 0) (by decide) (by decide) (v := (v).toInt64) (hv1 h6) dL_law_1382 ?_
    refine lv_iload hx hb dL_law_1383 (lv_at hl 0 rfl) ?_
    refine lv_i2l (v := (v).toInt64) hx hb dL_law_1385 rfl ?_
    refine W.lcmp hx hb dL_law_1386 ?_
    refine q_ti (y := nI 0) (l_cmp _) ?_
    refine q_eq0 (tgt := 1392) hx hb (by decide) dL_law_1387 (by decide) (fun h9 => ?_) (fun h9 => (by omega))
    refine lv_goto (tgt := 1997) hx hb dL_law_1392 (by decide) ?_
    refine va_forget (fun q hq => hS.2.2 q hq) ?_
    refine W.widen (k := cells + 24) (n := slots + 14000) (by omega) (by omega) ?_
    exact next σ2 R2 ad9 _ ls ⟨hv2, hR2, hw2, hW, hrW, ⟨_, hat1⟩, ⟨_, hat2⟩, hS.forget, hhz⟩ (by rw [hAE 0 0 (by decide) (fun z => absurd z (by decide))]; exact lv_sub hl [2, 3, 4, 5, 6, 7] rfl)
set_option maxHeartbeats 4000000 in
set_option maxRecDepth 100000 in
theorem c_firings (cx : lC p l s m meth c b L xs G es o1 o2 hz A B) {k : Nat} (hk : 8 * k + 8 ≤ L) {σ ρ ad : QSt} {H : Heap} {ls : Array Slot} (hI : lS G es A B bd o1 o2 hz s σ ρ ad H) (hl : lv_has ls 9 [(0, .ref b), (1, .ref (ad 0 0)), (2, .ref (bd 0 0)), (3, .ref o1), (4, .ref o2), (5, .int (nI (8 * k)))]) {cells slots : Nat} {Q : State → Prop} (hroom : cells + 24 ≤ 603072 ∧ slots + 14000 ≤ 7223402)
    (next : ∀ (σ ρ ad : QSt) (H : Heap) (ls : Array Slot), lS G es A B bd o1 o2 hz s σ ρ ad H → lv_has ls 9 [(0, .ref b), (1, .ref (ad 0 0)), (2, .ref (bd 0 0)), (3, .ref o1), (4, .ref o2), (5, .int (nI (8 * k)))] → W p l e room_1 s m #[Value.ref b] below meth c H [] (cells + 24) (slots + 14000) Q (F0 m 1997 ls [])) : W p l e room_1 s m #[Value.ref b] below meth c H [] cells slots Q (F0 m 1395 ls []) := by
  obtain ⟨hx, hb, hml, hown, hts, hlocks, hst, hX, hbl, hC, hZ0, hzT, hzN, hL, hD⟩ := cx
  obtain ⟨hv, hR, hw, hW, hrW, ⟨f1, hat1⟩, ⟨f2, hat2⟩, hS, hhz⟩ := hI
  have hF := hv.1.wf
  have hB := hF.1
  have hn := hF.n
  refine lv_aload_n hx hb dL_law_1395 rfl (lv_at hl 1 rfl) ?_
  refine q_v (va_runV (As := []) (rest := []) ⟨hx, hb, hml, hown, hts⟩ (m_firings l G es A σ ad hF) (cwV 0 hts gL_law_X7_firings rfl rfl rfl (by decide +kernel) ⟨Nat.le_of_ble_eq_true rfl, Nat.le_of_ble_eq_true rfl⟩) ⟨qR.blind, qrecv hC (hW.to qLV0) rfl, qR.pre hC hW⟩ rfl rfl hl.1 rfl (lv_room (Nat.le_of_ble_eq_true rfl)) dL_law_1396 ⟨by show cells + 0 ≤ 603072; omega, by show slots + 0 ≤ 7223402; omega⟩) hS (fun _ h => h.elim) (fun locs hS => ?_)
  refine lv_aload_n hx hb dL_law_1399 rfl (lv_at hl 2 rfl) ?_
  refine q_wv (va_runV (As := []) (rest := [.int (nI (σ 0 3))]) ⟨hx, hb, hml, hown, hts⟩ (m_rfirings l G B ρ bd (rT_wf hw)) (cwV 0 hts gL_law_X8_firings rfl rfl rfl (by decide +kernel) ⟨Nat.le_of_ble_eq_true rfl, Nat.le_of_ble_eq_true rfl⟩) ⟨rR.blind, qrecv hC (hrW.to rLV0) rfl, rR.pre hC hrW⟩ rfl rfl hl.1 rfl (lv_room (Nat.le_of_ble_eq_true rfl)) dL_law_1400 ⟨by show cells + 0 ≤ 603072; omega, by show slots + 0 ≤ 7223402; omega⟩) hS hD.b hD.b (fun H2 locs hrW hz2 hk2 hS => ?_)
  have hW := hD.wB hW hk2
  have hat1 := hD.k1 hat1 hk2
  have hat2 := hD.k2 hat2 hk2
  have hhz := Nat.le_trans hhz hz2
  refine q_ti (y := nI (σ 0 3)) (by rw [(l_rT hR).n (by decide)]) ?_
  refine q_eq (tgt := 1997) hx hb (q31 (hB _ _)) (q31 (hB _ _)) dL_law_1403 (by decide) (fun h5 => ?_) (fun h5 => (by omega))
  refine va_forget (fun q hq => hS.2.2 q hq) ?_
  refine W.widen (k := cells + 24) (n := slots + 14000) (by omega) (by omega) ?_
  exact next σ (rT ρ) ad _ ls ⟨hv, l_rT hR, rT_wf hw, hW, hrW, ⟨_, hat1⟩, ⟨_, hat2⟩, hS.forget, hhz⟩ (lv_sub hl [0, 1, 2, 3, 4, 5] rfl)
set_option maxHeartbeats 4000000 in
set_option maxRecDepth 100000 in
theorem c_alertOf (cx : lC p l s m meth c b L xs G es o1 o2 hz A B) {k : Nat} (hk : 8 * k + 8 ≤ L) {σ ρ ad : QSt} {H : Heap} {ls : Array Slot} (hI : lS G es A B bd o1 o2 hz s σ ρ ad H) (hl : lv_has ls 9 [(0, .ref b), (1, .ref (ad 0 0)), (2, .ref (bd 0 0)), (3, .ref o1), (4, .ref o2), (5, .int (nI (8 * k)))]) {cells slots : Nat} {Q : State → Prop} (hroom : cells + 24 ≤ 603072 ∧ slots + 14000 ≤ 7223402)
    (next : ∀ (σ ρ ad : QSt) (H : Heap) (ls : Array Slot), lS G es A B bd o1 o2 hz s σ ρ ad H → lv_has ls 9 [(0, .ref b), (1, .ref (ad 0 0)), (2, .ref (bd 0 0)), (3, .ref o1), (4, .ref o2), (5, .int (nI (8 * k)))] → W p l e room_1 s m #[Value.ref b] below meth c H [] (cells + 24) (slots + 14000) Q (F0 m 1997 ls [])) : W p l e room_1 s m #[Value.ref b] below meth c H [] cells slots Q (F0 m 1408 ls []) := by
  obtain ⟨hx, hb, hml, hown, hts, hlocks, hst, hX, hbl, hC, hZ0, hzT, hzN, hL, hD⟩ := cx
  obtain ⟨hv, hR, hw, hW, hrW, ⟨f1, hat1⟩, ⟨f2, hat2⟩, hS, hhz⟩ := hI
  have hF := hv.1.wf
  have hB := hF.1
  have hn := hF.n
  obtain ⟨x1, hx1⟩ : ∃ x, x = xs (8 * k + 1) := ⟨_, rfl⟩
  obtain ⟨K, mc, ms, fr, lo, fr2, lo2, σ2, R2, v, hK, hmc, hms, ⟨hr1, hr2, hr3, hr4⟩, hv2, hR2, hw2, hK2, hPv, M1, M2⟩ := lk_alertOf (l := l) (G := G) (es := es) (A := A) (B := B) (σ := σ) (ρ := ρ) (ad := ad) (bd := bd) (o1 := o1) (f1 := f1) hst hv hR hw hD.n1 x1
  refine lv_aload_n hx hb dL_law_1408 rfl (lv_at hl 1 rfl) ?_
  refine lv_aload_n hx hb dL_law_1409 rfl (lv_at hl 0 rfl) ?_
  refine lv_iload hx hb dL_law_1410 (lv_at hl 5 rfl) ?_
  refine lv_iconst (v := nI 1) hx hb dL_law_1412 (by decide) ?_
  refine lv_iadd hx hb dL_law_1413 ?_
  refine q_ti (nI_add (8 * k) 1) ?_
  refine va_sld (i := nI ((8 * k) + 1)) hx hb hX hbl (Nat.not_le.mpr hbl) hS (vp_in_nI (n := 8 * k + 1) (by omega) (by omega)) dL_law_1414 ?_
  refine q_ti (y := x1) (by rw [hx1, nI_clamp (by omega)]) ?_
  refine lv_aload_n hx hb dL_law_1415 rfl (lv_at hl 3 rfl) ?_
  refine q_wv (vx_runSW (As := [.ref (ad 0 0), .int (x1), .ref (o1)]) (rest := []) ⟨hx, hb, hml, hown, hts⟩ M1 (vx_cwSW 3 hts gL_law_L_alertOf rfl rfl rfl (by decide +kernel) ⟨by show fr + 1 ≤ 21; omega, by show 8 + (4 + 11) + lo ≤ 10922; omega⟩) ⟨qLg.blind, qLg.pre hC hW (hD.z hZ0 hS) (hD.up hhz) hzT hzN hat1⟩ rfl rfl hl.1 rfl (lv_room (Nat.le_of_ble_eq_true rfl)) dL_law_1416 ⟨by show cells + mc ≤ 603072; omega, by show slots + ms ≤ 7223402; omega⟩) hS hD.a1 hD.a1 (fun H1 locs hP9 hz1 hk1 hS => ?_)
  obtain ⟨ad9, hAE, hW, f3, hat1, hv1⟩ := hP9
  have hrW := hD.w1 hrW hk1
  have hat2 := hD.c1 hat2 hk1
  have hhz := Nat.le_trans hhz hz1
  refine lv_istore (lv' := [(6, .int (nI K)), (0, .ref (b)), (1, .ref (ad 0 0)), (2, .ref (bd 0 0)), (3, .ref (o1)), (4, .ref (o2)), (5, .int (nI (8 * k)))]) hx hb dL_law_1419 hl (by decide) rfl (fun ls hl => ?_)
  refine lv_aload_n hx hb dL_law_1421 rfl (lv_at hl 3 rfl) ?_
  refine lv_aload_n hx hb dL_law_1422 rfl (lv_at hl 1 rfl) ?_
  refine lv_iload hx hb dL_law_1423 (lv_at hl 6 rfl) ?_
  refine lv_iconst (v := nI 1) hx hb dL_law_1425 (by decide) ?_
  refine lv_iadd hx hb dL_law_1426 ?_
  refine q_ti (nI_add (8 * k) 1) ?_
  refine va_sld (i := nI ((8 * k) + 1)) hx hb hX hbl (Nat.not_le.mpr hbl) hS (vp_in_nI (n := 8 * k + 1) (by omega) (by omega)) dL_law_1427 ?_
  refine q_ti (y := x1) (by rw [hx1, nI_clamp (by omega)]) ?_
  refine q_wv (va_runV (As := [.int (x1)]) (rest := []) ⟨hx, hb, hml, hown, hts⟩ M2 (cwV 1 hts gL_law_X8_alertOf rfl rfl rfl (by decide +kernel) ⟨by show fr2 + 1 ≤ 21; omega, by show 8 + (2 + 11) + lo2 ≤ 10922; omega⟩) ⟨rR.blind, qrecv hC (hrW.to rLV0) rfl, rR.pre hC hrW⟩ rfl rfl hl.1 rfl (lv_room (Nat.le_of_ble_eq_true rfl)) dL_law_1428 ⟨by show cells + mc + 0 ≤ 603072; omega, by show slots + ms + 0 ≤ 7223402; omega⟩) hS hD.b hD.b (fun H2 locs hrW hz2 hk2 hS => ?_)
  have hW := hD.wB hW hk2
  have hat1 := hD.k1 hat1 hk2
  have hat2 := hD.k2 hat2 hk2
  have hhz := Nat.le_trans hhz hz2
  refine lv_istore (lv' := [(7, .int (v)), (6, .int (nI K)), (0, .ref (b)), (1, .ref (ad 0 0)), (2, .ref (bd 0 0)), (3, .ref (o1)), (4, .ref (o2)), (5, .int (nI (8 * k)))]) hx hb dL_law_1431 hl (by decide) rfl (fun ls hl => ?_)
  refine lv_aload_n hx hb dL_law_1433 rfl (lv_at hl 4 rfl) ?_
  refine q_v (va_runV (As := []) (rest := []) ⟨hx, hb, hml, hown, hts⟩ (m_rthrown l G B R2 bd hw2) (cwV 0 hts gL_law_X8_thrown rfl rfl rfl (by decide +kernel) ⟨Nat.le_of_ble_eq_true rfl, Nat.le_of_ble_eq_true rfl⟩) ⟨rR.blind, qrecv hC (hrW.to rLV0) rfl, rR.pre hC hrW⟩ rfl rfl hl.1 rfl (lv_room (Nat.le_of_ble_eq_true rfl)) dL_law_1434 ⟨by show cells + mc + 0 + 0 ≤ 603072; omega, by show slots + ms + 0 + 0 ≤ 7223402; omega⟩) hS (fun _ h => h.elim) (fun locs hS => ?_)
  refine q_ti (y := nI K) (by rw [hK2]) ?_
  refine lv_iload hx hb dL_law_1437 (lv_at hl 1 rfl) ?_
  refine q_eq (tgt := 1444) hx hb (by omega) (by omega) dL_law_1439 (by decide) (fun h5 => ?_) (fun h5 => (by omega))
  refine lv_iload hx hb dL_law_1444 (lv_at hl 1 rfl) ?_
  refine q_ne0 (tgt := 1461) hx hb (by omega) dL_law_1446 (by decide) (fun h6 => ?_) (fun h6 => ?_)
  · skip
    refine lv_goto (tgt := 1997) hx hb dL_law_1461 (by decide) ?_
    refine va_forget (fun q hq => hS.2.2 q hq) ?_
    refine W.widen (k := cells + 24) (n := slots + 14000) (by omega) (by omega) ?_
    exact next σ2 R2 ad9 _ ls ⟨hv2, hR2, hw2, hW, hrW, ⟨_, hat1⟩, ⟨_, hat2⟩, hS.forget, hhz⟩ (by rw [hAE 0 0 (by decide) (fun z => absurd z (by decide))]; exact lv_sub hl [2, 3, 4, 5, 6, 7] rfl)
  · skip
    refine lv_aload_n hx hb dL_law_1449 rfl (lv_at hl 5 rfl) ?_
    refine lv_iconst (v := nI 0) hx hb dL_law_1450 (by decide) ?_
    refine r_lald hx hb hC.1 hat1 2 rfl (i := 0) (by decide) (by decide) (v := (v).toInt64) (hv1 h6) dL_law_1451 ?_
    refine lv_iload hx hb dL_law_1452 (lv_at hl 0 rfl) ?_
    refine lv_i2l (v := (v).toInt64) hx hb dL_law_1454 rfl ?_
    refine W.lcmp hx hb dL_law_1455 ?_
    refine q_ti (y := nI 0) (l_cmp _) ?_
    refine q_eq0 (tgt := 1461) hx hb (by decide) dL_law_1456 (by decide) (fun h9 => ?_) (fun h9 => (by omega))
    refine lv_goto (tgt := 1997) hx hb dL_law_1461 (by decide) ?_
    refine va_forget (fun q hq => hS.2.2 q hq) ?_
    refine W.widen (k := cells + 24) (n := slots + 14000) (by omega) (by omega) ?_
    exact next σ2 R2 ad9 _ ls ⟨hv2, hR2, hw2, hW, hrW, ⟨_, hat1⟩, ⟨_, hat2⟩, hS.forget, hhz⟩ (by rw [hAE 0 0 (by decide) (fun z => absurd z (by decide))]; exact lv_sub hl [2, 3, 4, 5, 6, 7] rfl)
set_option maxHeartbeats 4000000 in
set_option maxRecDepth 100000 in
theorem c_firedAt (cx : lC p l s m meth c b L xs G es o1 o2 hz A B) {k : Nat} (hk : 8 * k + 8 ≤ L) {σ ρ ad : QSt} {H : Heap} {ls : Array Slot} (hI : lS G es A B bd o1 o2 hz s σ ρ ad H) (hl : lv_has ls 9 [(0, .ref b), (1, .ref (ad 0 0)), (2, .ref (bd 0 0)), (3, .ref o1), (4, .ref o2), (5, .int (nI (8 * k)))]) {cells slots : Nat} {Q : State → Prop} (hroom : cells + 24 ≤ 603072 ∧ slots + 14000 ≤ 7223402)
    (next : ∀ (σ ρ ad : QSt) (H : Heap) (ls : Array Slot), lS G es A B bd o1 o2 hz s σ ρ ad H → lv_has ls 9 [(0, .ref b), (1, .ref (ad 0 0)), (2, .ref (bd 0 0)), (3, .ref o1), (4, .ref o2), (5, .int (nI (8 * k)))] → W p l e room_1 s m #[Value.ref b] below meth c H [] (cells + 24) (slots + 14000) Q (F0 m 1997 ls [])) : W p l e room_1 s m #[Value.ref b] below meth c H [] cells slots Q (F0 m 1464 ls []) := by
  obtain ⟨hx, hb, hml, hown, hts, hlocks, hst, hX, hbl, hC, hZ0, hzT, hzN, hL, hD⟩ := cx
  obtain ⟨hv, hR, hw, hW, hrW, ⟨f1, hat1⟩, ⟨f2, hat2⟩, hS, hhz⟩ := hI
  have hF := hv.1.wf
  have hB := hF.1
  have hn := hF.n
  obtain ⟨x1, hx1⟩ : ∃ x, x = xs (8 * k + 1) := ⟨_, rfl⟩
  obtain ⟨K, mc, ms, fr, lo, fr2, lo2, σ2, R2, v, hK, hmc, hms, ⟨hr1, hr2, hr3, hr4⟩, hv2, hR2, hw2, hK2, hPv, M1, M2⟩ := lk_firedAt (l := l) (G := G) (es := es) (A := A) (B := B) (σ := σ) (ρ := ρ) (ad := ad) (bd := bd) (o1 := o1) (f1 := f1) hst hv hR hw hD.n1 x1
  refine lv_aload_n hx hb dL_law_1464 rfl (lv_at hl 1 rfl) ?_
  refine lv_aload_n hx hb dL_law_1465 rfl (lv_at hl 0 rfl) ?_
  refine lv_iload hx hb dL_law_1466 (lv_at hl 5 rfl) ?_
  refine lv_iconst (v := nI 1) hx hb dL_law_1468 (by decide) ?_
  refine lv_iadd hx hb dL_law_1469 ?_
  refine q_ti (nI_add (8 * k) 1) ?_
  refine va_sld (i := nI ((8 * k) + 1)) hx hb hX hbl (Nat.not_le.mpr hbl) hS (vp_in_nI (n := 8 * k + 1) (by omega) (by omega)) dL_law_1470 ?_
  refine q_ti (y := x1) (by rw [hx1, nI_clamp (by omega)]) ?_
  refine lv_aload_n hx hb dL_law_1471 rfl (lv_at hl 3 rfl) ?_
  refine q_wv (vx_runSW (As := [.ref (ad 0 0), .int (x1), .ref (o1)]) (rest := []) ⟨hx, hb, hml, hown, hts⟩ M1 (vx_cwSW 3 hts gL_law_L_firedAt rfl rfl rfl (by decide +kernel) ⟨by show fr + 1 ≤ 21; omega, by show 8 + (4 + 11) + lo ≤ 10922; omega⟩) ⟨qLg.blind, qLg.pre hC hW (hD.z hZ0 hS) (hD.up hhz) hzT hzN hat1⟩ rfl rfl hl.1 rfl (lv_room (Nat.le_of_ble_eq_true rfl)) dL_law_1472 ⟨by show cells + mc ≤ 603072; omega, by show slots + ms ≤ 7223402; omega⟩) hS hD.a1 hD.a1 (fun H1 locs hP9 hz1 hk1 hS => ?_)
  obtain ⟨ad9, hAE, hW, f3, hat1, hv1⟩ := hP9
  have hrW := hD.w1 hrW hk1
  have hat2 := hD.c1 hat2 hk1
  have hhz := Nat.le_trans hhz hz1
  refine lv_istore (lv' := [(6, .int (nI K)), (0, .ref (b)), (1, .ref (ad 0 0)), (2, .ref (bd 0 0)), (3, .ref (o1)), (4, .ref (o2)), (5, .int (nI (8 * k)))]) hx hb dL_law_1475 hl (by decide) rfl (fun ls hl => ?_)
  refine lv_aload_n hx hb dL_law_1477 rfl (lv_at hl 3 rfl) ?_
  refine lv_aload_n hx hb dL_law_1478 rfl (lv_at hl 1 rfl) ?_
  refine lv_iload hx hb dL_law_1479 (lv_at hl 6 rfl) ?_
  refine lv_iconst (v := nI 1) hx hb dL_law_1481 (by decide) ?_
  refine lv_iadd hx hb dL_law_1482 ?_
  refine q_ti (nI_add (8 * k) 1) ?_
  refine va_sld (i := nI ((8 * k) + 1)) hx hb hX hbl (Nat.not_le.mpr hbl) hS (vp_in_nI (n := 8 * k + 1) (by omega) (by omega)) dL_law_1483 ?_
  refine q_ti (y := x1) (by rw [hx1, nI_clamp (by omega)]) ?_
  refine q_wv (va_runV (As := [.int (x1)]) (rest := []) ⟨hx, hb, hml, hown, hts⟩ M2 (cwV 1 hts gL_law_X8_firedAt rfl rfl rfl (by decide +kernel) ⟨by show fr2 + 1 ≤ 21; omega, by show 8 + (2 + 11) + lo2 ≤ 10922; omega⟩) ⟨rR.blind, qrecv hC (hrW.to rLV0) rfl, rR.pre hC hrW⟩ rfl rfl hl.1 rfl (lv_room (Nat.le_of_ble_eq_true rfl)) dL_law_1484 ⟨by show cells + mc + 0 ≤ 603072; omega, by show slots + ms + 0 ≤ 7223402; omega⟩) hS hD.b hD.b (fun H2 locs hrW hz2 hk2 hS => ?_)
  have hW := hD.wB hW hk2
  have hat1 := hD.k1 hat1 hk2
  have hat2 := hD.k2 hat2 hk2
  have hhz := Nat.le_trans hhz hz2
  refine lv_istore (lv' := [(7, .int (v)), (6, .int (nI K)), (0, .ref (b)), (1, .ref (ad 0 0)), (2, .ref (bd 0 0)), (3, .ref (o1)), (4, .ref (o2)), (5, .int (nI (8 * k)))]) hx hb dL_law_1487 hl (by decide) rfl (fun ls hl => ?_)
  refine lv_aload_n hx hb dL_law_1489 rfl (lv_at hl 4 rfl) ?_
  refine q_v (va_runV (As := []) (rest := []) ⟨hx, hb, hml, hown, hts⟩ (m_rthrown l G B R2 bd hw2) (cwV 0 hts gL_law_X8_thrown rfl rfl rfl (by decide +kernel) ⟨Nat.le_of_ble_eq_true rfl, Nat.le_of_ble_eq_true rfl⟩) ⟨rR.blind, qrecv hC (hrW.to rLV0) rfl, rR.pre hC hrW⟩ rfl rfl hl.1 rfl (lv_room (Nat.le_of_ble_eq_true rfl)) dL_law_1490 ⟨by show cells + mc + 0 + 0 ≤ 603072; omega, by show slots + ms + 0 + 0 ≤ 7223402; omega⟩) hS (fun _ h => h.elim) (fun locs hS => ?_)
  refine q_ti (y := nI K) (by rw [hK2]) ?_
  refine lv_iload hx hb dL_law_1493 (lv_at hl 1 rfl) ?_
  refine q_eq (tgt := 1500) hx hb (by omega) (by omega) dL_law_1495 (by decide) (fun h5 => ?_) (fun h5 => (by omega))
  refine lv_iload hx hb dL_law_1500 (lv_at hl 1 rfl) ?_
  refine q_ne0 (tgt := 1517) hx hb (by omega) dL_law_1502 (by decide) (fun h6 => ?_) (fun h6 => ?_)
  · skip
    refine lv_goto (tgt := 1997) hx hb dL_law_1517 (by decide) ?_
    refine va_forget (fun q hq => hS.2.2 q hq) ?_
    refine W.widen (k := cells + 24) (n := slots + 14000) (by omega) (by omega) ?_
    exact next σ2 R2 ad9 _ ls ⟨hv2, hR2, hw2, hW, hrW, ⟨_, hat1⟩, ⟨_, hat2⟩, hS.forget, hhz⟩ (by rw [hAE 0 0 (by decide) (fun z => absurd z (by decide))]; exact lv_sub hl [2, 3, 4, 5, 6, 7] rfl)
  · skip
    refine lv_aload_n hx hb dL_law_1505 rfl (lv_at hl 5 rfl) ?_
    refine lv_iconst (v := nI 0) hx hb dL_law_1506 (by decide) ?_
    refine r_lald hx hb hC.1 hat1 2 rfl (i := 0) (by decide) (by decide) (v := (v).toInt64) (hv1 h6) dL_law_1507 ?_
    refine lv_iload hx hb dL_law_1508 (lv_at hl 0 rfl) ?_
    refine lv_i2l (v := (v).toInt64) hx hb dL_law_1510 rfl ?_
    refine W.lcmp hx hb dL_law_1511 ?_
    refine q_ti (y := nI 0) (l_cmp _) ?_
    refine q_eq0 (tgt := 1517) hx hb (by decide) dL_law_1512 (by decide) (fun h9 => ?_) (fun h9 => (by omega))
    refine lv_goto (tgt := 1997) hx hb dL_law_1517 (by decide) ?_
    refine va_forget (fun q hq => hS.2.2 q hq) ?_
    refine W.widen (k := cells + 24) (n := slots + 14000) (by omega) (by omega) ?_
    exact next σ2 R2 ad9 _ ls ⟨hv2, hR2, hw2, hW, hrW, ⟨_, hat1⟩, ⟨_, hat2⟩, hS.forget, hhz⟩ (by rw [hAE 0 0 (by decide) (fun z => absurd z (by decide))]; exact lv_sub hl [2, 3, 4, 5, 6, 7] rfl)
set_option maxHeartbeats 4000000 in
set_option maxRecDepth 100000 in
theorem c_ground (cx : lC p l s m meth c b L xs G es o1 o2 hz A B) {k : Nat} (hk : 8 * k + 8 ≤ L) {σ ρ ad : QSt} {H : Heap} {ls : Array Slot} (hI : lS G es A B bd o1 o2 hz s σ ρ ad H) (hl : lv_has ls 9 [(0, .ref b), (1, .ref (ad 0 0)), (2, .ref (bd 0 0)), (3, .ref o1), (4, .ref o2), (5, .int (nI (8 * k)))]) {cells slots : Nat} {Q : State → Prop} (hroom : cells + 24 ≤ 603072 ∧ slots + 14000 ≤ 7223402)
    (next : ∀ (σ ρ ad : QSt) (H : Heap) (ls : Array Slot), lS G es A B bd o1 o2 hz s σ ρ ad H → lv_has ls 9 [(0, .ref b), (1, .ref (ad 0 0)), (2, .ref (bd 0 0)), (3, .ref o1), (4, .ref o2), (5, .int (nI (8 * k)))] → W p l e room_1 s m #[Value.ref b] below meth c H [] (cells + 24) (slots + 14000) Q (F0 m 1997 ls [])) : W p l e room_1 s m #[Value.ref b] below meth c H [] cells slots Q (F0 m 1520 ls []) := by
  obtain ⟨hx, hb, hml, hown, hts, hlocks, hst, hX, hbl, hC, hZ0, hzT, hzN, hL, hD⟩ := cx
  obtain ⟨hv, hR, hw, hW, hrW, ⟨f1, hat1⟩, ⟨f2, hat2⟩, hS, hhz⟩ := hI
  have hF := hv.1.wf
  have hB := hF.1
  have hn := hF.n
  obtain ⟨x1, hx1⟩ : ∃ x, x = xs (8 * k + 1) := ⟨_, rfl⟩
  obtain ⟨K, mc, ms, fr, lo, fr2, lo2, σ2, R2, v, hK, hmc, hms, ⟨hr1, hr2, hr3, hr4⟩, hv2, hR2, hw2, hK2, hPv, M1, M2⟩ := lk_ground (l := l) (G := G) (es := es) (A := A) (B := B) (σ := σ) (ρ := ρ) (ad := ad) (bd := bd) (o1 := o1) (f1 := f1) hst hv hR hw hD.n1 x1
  refine lv_aload_n hx hb dL_law_1520 rfl (lv_at hl 1 rfl) ?_
  refine lv_aload_n hx hb dL_law_1521 rfl (lv_at hl 0 rfl) ?_
  refine lv_iload hx hb dL_law_1522 (lv_at hl 5 rfl) ?_
  refine lv_iconst (v := nI 1) hx hb dL_law_1524 (by decide) ?_
  refine lv_iadd hx hb dL_law_1525 ?_
  refine q_ti (nI_add (8 * k) 1) ?_
  refine va_sld (i := nI ((8 * k) + 1)) hx hb hX hbl (Nat.not_le.mpr hbl) hS (vp_in_nI (n := 8 * k + 1) (by omega) (by omega)) dL_law_1526 ?_
  refine q_ti (y := x1) (by rw [hx1, nI_clamp (by omega)]) ?_
  refine lv_aload_n hx hb dL_law_1527 rfl (lv_at hl 3 rfl) ?_
  refine q_wv (vx_runSW (As := [.ref (ad 0 0), .int (x1), .ref (o1)]) (rest := []) ⟨hx, hb, hml, hown, hts⟩ M1 (vx_cwSW 3 hts gL_law_L_ground rfl rfl rfl (by decide +kernel) ⟨by show fr + 1 ≤ 21; omega, by show 8 + (4 + 11) + lo ≤ 10922; omega⟩) ⟨qLg.blind, qLg.pre hC hW (hD.z hZ0 hS) (hD.up hhz) hzT hzN hat1⟩ rfl rfl hl.1 rfl (lv_room (Nat.le_of_ble_eq_true rfl)) dL_law_1528 ⟨by show cells + mc ≤ 603072; omega, by show slots + ms ≤ 7223402; omega⟩) hS hD.a1 hD.a1 (fun H1 locs hP9 hz1 hk1 hS => ?_)
  obtain ⟨ad9, hAE, hW, f3, hat1, hv1⟩ := hP9
  have hrW := hD.w1 hrW hk1
  have hat2 := hD.c1 hat2 hk1
  have hhz := Nat.le_trans hhz hz1
  refine lv_istore (lv' := [(6, .int (nI K)), (0, .ref (b)), (1, .ref (ad 0 0)), (2, .ref (bd 0 0)), (3, .ref (o1)), (4, .ref (o2)), (5, .int (nI (8 * k)))]) hx hb dL_law_1531 hl (by decide) rfl (fun ls hl => ?_)
  refine lv_aload_n hx hb dL_law_1533 rfl (lv_at hl 3 rfl) ?_
  refine lv_aload_n hx hb dL_law_1534 rfl (lv_at hl 1 rfl) ?_
  refine lv_iload hx hb dL_law_1535 (lv_at hl 6 rfl) ?_
  refine lv_iconst (v := nI 1) hx hb dL_law_1537 (by decide) ?_
  refine lv_iadd hx hb dL_law_1538 ?_
  refine q_ti (nI_add (8 * k) 1) ?_
  refine va_sld (i := nI ((8 * k) + 1)) hx hb hX hbl (Nat.not_le.mpr hbl) hS (vp_in_nI (n := 8 * k + 1) (by omega) (by omega)) dL_law_1539 ?_
  refine q_ti (y := x1) (by rw [hx1, nI_clamp (by omega)]) ?_
  refine q_wv (va_runV (As := [.int (x1)]) (rest := []) ⟨hx, hb, hml, hown, hts⟩ M2 (cwV 1 hts gL_law_X8_ground rfl rfl rfl (by decide +kernel) ⟨by show fr2 + 1 ≤ 21; omega, by show 8 + (4 + 11) + lo2 ≤ 10922; omega⟩) ⟨rR.blind, qrecv hC (hrW.to rLV0) rfl, rR.pre hC hrW⟩ rfl rfl hl.1 rfl (lv_room (Nat.le_of_ble_eq_true rfl)) dL_law_1540 ⟨by show cells + mc + 0 ≤ 603072; omega, by show slots + ms + 0 ≤ 7223402; omega⟩) hS hD.b hD.b (fun H2 locs hrW hz2 hk2 hS => ?_)
  have hW := hD.wB hW hk2
  have hat1 := hD.k1 hat1 hk2
  have hat2 := hD.k2 hat2 hk2
  have hhz := Nat.le_trans hhz hz2
  refine lv_istore (lv' := [(7, .int (v)), (6, .int (nI K)), (0, .ref (b)), (1, .ref (ad 0 0)), (2, .ref (bd 0 0)), (3, .ref (o1)), (4, .ref (o2)), (5, .int (nI (8 * k)))]) hx hb dL_law_1543 hl (by decide) rfl (fun ls hl => ?_)
  refine lv_aload_n hx hb dL_law_1545 rfl (lv_at hl 4 rfl) ?_
  refine q_v (va_runV (As := []) (rest := []) ⟨hx, hb, hml, hown, hts⟩ (m_rthrown l G B R2 bd hw2) (cwV 0 hts gL_law_X8_thrown rfl rfl rfl (by decide +kernel) ⟨Nat.le_of_ble_eq_true rfl, Nat.le_of_ble_eq_true rfl⟩) ⟨rR.blind, qrecv hC (hrW.to rLV0) rfl, rR.pre hC hrW⟩ rfl rfl hl.1 rfl (lv_room (Nat.le_of_ble_eq_true rfl)) dL_law_1546 ⟨by show cells + mc + 0 + 0 ≤ 603072; omega, by show slots + ms + 0 + 0 ≤ 7223402; omega⟩) hS (fun _ h => h.elim) (fun locs hS => ?_)
  refine q_ti (y := nI K) (by rw [hK2]) ?_
  refine lv_iload hx hb dL_law_1549 (lv_at hl 1 rfl) ?_
  refine q_eq (tgt := 1556) hx hb (by omega) (by omega) dL_law_1551 (by decide) (fun h5 => ?_) (fun h5 => (by omega))
  refine lv_iload hx hb dL_law_1556 (lv_at hl 1 rfl) ?_
  refine q_ne0 (tgt := 1573) hx hb (by omega) dL_law_1558 (by decide) (fun h6 => ?_) (fun h6 => ?_)
  · skip
    refine lv_goto (tgt := 1997) hx hb dL_law_1573 (by decide) ?_
    refine va_forget (fun q hq => hS.2.2 q hq) ?_
    refine W.widen (k := cells + 24) (n := slots + 14000) (by omega) (by omega) ?_
    exact next σ2 R2 ad9 _ ls ⟨hv2, hR2, hw2, hW, hrW, ⟨_, hat1⟩, ⟨_, hat2⟩, hS.forget, hhz⟩ (by rw [hAE 0 0 (by decide) (fun z => absurd z (by decide))]; exact lv_sub hl [2, 3, 4, 5, 6, 7] rfl)
  · skip
    refine lv_aload_n hx hb dL_law_1561 rfl (lv_at hl 5 rfl) ?_
    refine lv_iconst (v := nI 0) hx hb dL_law_1562 (by decide) ?_
    refine r_lald hx hb hC.1 hat1 2 rfl (i := 0) (by decide) (by decide) (v := (v).toInt64) (hv1 h6) dL_law_1563 ?_
    refine lv_iload hx hb dL_law_1564 (lv_at hl 0 rfl) ?_
    refine lv_i2l (v := (v).toInt64) hx hb dL_law_1566 rfl ?_
    refine W.lcmp hx hb dL_law_1567 ?_
    refine q_ti (y := nI 0) (l_cmp _) ?_
    refine q_eq0 (tgt := 1573) hx hb (by decide) dL_law_1568 (by decide) (fun h9 => ?_) (fun h9 => (by omega))
    refine lv_goto (tgt := 1997) hx hb dL_law_1573 (by decide) ?_
    refine va_forget (fun q hq => hS.2.2 q hq) ?_
    refine W.widen (k := cells + 24) (n := slots + 14000) (by omega) (by omega) ?_
    exact next σ2 R2 ad9 _ ls ⟨hv2, hR2, hw2, hW, hrW, ⟨_, hat1⟩, ⟨_, hat2⟩, hS.forget, hhz⟩ (by rw [hAE 0 0 (by decide) (fun z => absurd z (by decide))]; exact lv_sub hl [2, 3, 4, 5, 6, 7] rfl)
set_option maxHeartbeats 4000000 in
set_option maxRecDepth 100000 in
theorem c_standsOn (cx : lC p l s m meth c b L xs G es o1 o2 hz A B) {k : Nat} (hk : 8 * k + 8 ≤ L) {σ ρ ad : QSt} {H : Heap} {ls : Array Slot} (hI : lS G es A B bd o1 o2 hz s σ ρ ad H) (hl : lv_has ls 9 [(0, .ref b), (1, .ref (ad 0 0)), (2, .ref (bd 0 0)), (3, .ref o1), (4, .ref o2), (5, .int (nI (8 * k)))]) {cells slots : Nat} {Q : State → Prop} (hroom : cells + 24 ≤ 603072 ∧ slots + 14000 ≤ 7223402)
    (next : ∀ (σ ρ ad : QSt) (H : Heap) (ls : Array Slot), lS G es A B bd o1 o2 hz s σ ρ ad H → lv_has ls 9 [(0, .ref b), (1, .ref (ad 0 0)), (2, .ref (bd 0 0)), (3, .ref o1), (4, .ref o2), (5, .int (nI (8 * k)))] → W p l e room_1 s m #[Value.ref b] below meth c H [] (cells + 24) (slots + 14000) Q (F0 m 1997 ls [])) : W p l e room_1 s m #[Value.ref b] below meth c H [] cells slots Q (F0 m 1576 ls []) := by
  obtain ⟨hx, hb, hml, hown, hts, hlocks, hst, hX, hbl, hC, hZ0, hzT, hzN, hL, hD⟩ := cx
  obtain ⟨hv, hR, hw, hW, hrW, ⟨f1, hat1⟩, ⟨f2, hat2⟩, hS, hhz⟩ := hI
  have hF := hv.1.wf
  have hB := hF.1
  have hn := hF.n
  obtain ⟨x1, hx1⟩ : ∃ x, x = xs (8 * k + 1) := ⟨_, rfl⟩
  obtain ⟨x2, hx2⟩ : ∃ x, x = xs (8 * k + 2) := ⟨_, rfl⟩
  obtain ⟨K, mc, ms, fr, lo, fr2, lo2, σ2, R2, v, hK, hmc, hms, ⟨hr1, hr2, hr3, hr4⟩, hv2, hR2, hw2, hK2, hPv, M1, M2⟩ := lk_standsOn (l := l) (G := G) (es := es) (A := A) (B := B) (σ := σ) (ρ := ρ) (ad := ad) (bd := bd) (o1 := o1) (f1 := f1) hst hv hR hw hD.n1 x1 x2
  refine lv_aload_n hx hb dL_law_1576 rfl (lv_at hl 1 rfl) ?_
  refine lv_aload_n hx hb dL_law_1577 rfl (lv_at hl 0 rfl) ?_
  refine lv_iload hx hb dL_law_1578 (lv_at hl 5 rfl) ?_
  refine lv_iconst (v := nI 1) hx hb dL_law_1580 (by decide) ?_
  refine lv_iadd hx hb dL_law_1581 ?_
  refine q_ti (nI_add (8 * k) 1) ?_
  refine va_sld (i := nI ((8 * k) + 1)) hx hb hX hbl (Nat.not_le.mpr hbl) hS (vp_in_nI (n := 8 * k + 1) (by omega) (by omega)) dL_law_1582 ?_
  refine q_ti (y := x1) (by rw [hx1, nI_clamp (by omega)]) ?_
  refine lv_aload_n hx hb dL_law_1583 rfl (lv_at hl 0 rfl) ?_
  refine lv_iload hx hb dL_law_1584 (lv_at hl 5 rfl) ?_
  refine lv_iconst (v := nI 2) hx hb dL_law_1586 (by decide) ?_
  refine lv_iadd hx hb dL_law_1587 ?_
  refine q_ti (nI_add (8 * k) 2) ?_
  refine va_sld (i := nI ((8 * k) + 2)) hx hb hX hbl (Nat.not_le.mpr hbl) hS (vp_in_nI (n := 8 * k + 2) (by omega) (by omega)) dL_law_1588 ?_
  refine q_ti (y := x2) (by rw [hx2, nI_clamp (by omega)]) ?_
  refine lv_aload_n hx hb dL_law_1589 rfl (lv_at hl 3 rfl) ?_
  refine q_wv (vx_runSW (As := [.ref (ad 0 0), .int (x1), .int (x2), .ref (o1)]) (rest := []) ⟨hx, hb, hml, hown, hts⟩ M1 (vx_cwSW 4 hts gL_law_L_standsOn rfl rfl rfl (by decide +kernel) ⟨by show fr + 1 ≤ 21; omega, by show 8 + (5 + 11) + lo ≤ 10922; omega⟩) ⟨qLg.blind, qLg.pre hC hW (hD.z hZ0 hS) (hD.up hhz) hzT hzN hat1⟩ rfl rfl hl.1 rfl (lv_room (Nat.le_of_ble_eq_true rfl)) dL_law_1590 ⟨by show cells + mc ≤ 603072; omega, by show slots + ms ≤ 7223402; omega⟩) hS hD.a1 hD.a1 (fun H1 locs hP9 hz1 hk1 hS => ?_)
  obtain ⟨ad9, hAE, hW, f3, hat1, hv1⟩ := hP9
  have hrW := hD.w1 hrW hk1
  have hat2 := hD.c1 hat2 hk1
  have hhz := Nat.le_trans hhz hz1
  refine lv_istore (lv' := [(6, .int (nI K)), (0, .ref (b)), (1, .ref (ad 0 0)), (2, .ref (bd 0 0)), (3, .ref (o1)), (4, .ref (o2)), (5, .int (nI (8 * k)))]) hx hb dL_law_1593 hl (by decide) rfl (fun ls hl => ?_)
  refine lv_aload_n hx hb dL_law_1595 rfl (lv_at hl 3 rfl) ?_
  refine lv_aload_n hx hb dL_law_1596 rfl (lv_at hl 1 rfl) ?_
  refine lv_iload hx hb dL_law_1597 (lv_at hl 6 rfl) ?_
  refine lv_iconst (v := nI 1) hx hb dL_law_1599 (by decide) ?_
  refine lv_iadd hx hb dL_law_1600 ?_
  refine q_ti (nI_add (8 * k) 1) ?_
  refine va_sld (i := nI ((8 * k) + 1)) hx hb hX hbl (Nat.not_le.mpr hbl) hS (vp_in_nI (n := 8 * k + 1) (by omega) (by omega)) dL_law_1601 ?_
  refine q_ti (y := x1) (by rw [hx1, nI_clamp (by omega)]) ?_
  refine lv_aload_n hx hb dL_law_1602 rfl (lv_at hl 1 rfl) ?_
  refine lv_iload hx hb dL_law_1603 (lv_at hl 6 rfl) ?_
  refine lv_iconst (v := nI 2) hx hb dL_law_1605 (by decide) ?_
  refine lv_iadd hx hb dL_law_1606 ?_
  refine q_ti (nI_add (8 * k) 2) ?_
  refine va_sld (i := nI ((8 * k) + 2)) hx hb hX hbl (Nat.not_le.mpr hbl) hS (vp_in_nI (n := 8 * k + 2) (by omega) (by omega)) dL_law_1607 ?_
  refine q_ti (y := x2) (by rw [hx2, nI_clamp (by omega)]) ?_
  refine q_wv (va_runV (As := [.int (x1), .int (x2)]) (rest := []) ⟨hx, hb, hml, hown, hts⟩ M2 (cwV 2 hts gL_law_X8_standsOn rfl rfl rfl (by decide +kernel) ⟨by show fr2 + 1 ≤ 21; omega, by show 8 + (3 + 11) + lo2 ≤ 10922; omega⟩) ⟨rR.blind, qrecv hC (hrW.to rLV0) rfl, rR.pre hC hrW⟩ rfl rfl hl.1 rfl (lv_room (Nat.le_of_ble_eq_true rfl)) dL_law_1608 ⟨by show cells + mc + 0 ≤ 603072; omega, by show slots + ms + 0 ≤ 7223402; omega⟩) hS hD.b hD.b (fun H2 locs hrW hz2 hk2 hS => ?_)
  have hW := hD.wB hW hk2
  have hat1 := hD.k1 hat1 hk2
  have hat2 := hD.k2 hat2 hk2
  have hhz := Nat.le_trans hhz hz2
  refine lv_istore (lv' := [(7, .int (v)), (6, .int (nI K)), (0, .ref (b)), (1, .ref (ad 0 0)), (2, .ref (bd 0 0)), (3, .ref (o1)), (4, .ref (o2)), (5, .int (nI (8 * k)))]) hx hb dL_law_1611 hl (by decide) rfl (fun ls hl => ?_)
  refine lv_aload_n hx hb dL_law_1613 rfl (lv_at hl 4 rfl) ?_
  refine q_v (va_runV (As := []) (rest := []) ⟨hx, hb, hml, hown, hts⟩ (m_rthrown l G B R2 bd hw2) (cwV 0 hts gL_law_X8_thrown rfl rfl rfl (by decide +kernel) ⟨Nat.le_of_ble_eq_true rfl, Nat.le_of_ble_eq_true rfl⟩) ⟨rR.blind, qrecv hC (hrW.to rLV0) rfl, rR.pre hC hrW⟩ rfl rfl hl.1 rfl (lv_room (Nat.le_of_ble_eq_true rfl)) dL_law_1614 ⟨by show cells + mc + 0 + 0 ≤ 603072; omega, by show slots + ms + 0 + 0 ≤ 7223402; omega⟩) hS (fun _ h => h.elim) (fun locs hS => ?_)
  refine q_ti (y := nI K) (by rw [hK2]) ?_
  refine lv_iload hx hb dL_law_1617 (lv_at hl 1 rfl) ?_
  refine q_eq (tgt := 1624) hx hb (by omega) (by omega) dL_law_1619 (by decide) (fun h5 => ?_) (fun h5 => (by omega))
  refine lv_iload hx hb dL_law_1624 (lv_at hl 1 rfl) ?_
  refine q_ne0 (tgt := 1648) hx hb (by omega) dL_law_1626 (by decide) (fun h6 => ?_) (fun h6 => ?_)
  · skip
    refine lv_goto (tgt := 1997) hx hb dL_law_1648 (by decide) ?_
    refine va_forget (fun q hq => hS.2.2 q hq) ?_
    refine W.widen (k := cells + 24) (n := slots + 14000) (by omega) (by omega) ?_
    exact next σ2 R2 ad9 _ ls ⟨hv2, hR2, hw2, hW, hrW, ⟨_, hat1⟩, ⟨_, hat2⟩, hS.forget, hhz⟩ (by rw [hAE 0 0 (by decide) (fun z => absurd z (by decide))]; exact lv_sub hl [2, 3, 4, 5, 6, 7] rfl)
  · skip
    refine lv_aload_n hx hb dL_law_1629 rfl (lv_at hl 5 rfl) ?_
    refine lv_iconst (v := nI 0) hx hb dL_law_1630 (by decide) ?_
    obtain ⟨w9, hw9, rfl⟩ := hPv h6
    refine r_lald hx hb hC.1 hat1 2 rfl (i := 0) (by decide) (by decide) (v := (nI w9).toInt64) (hv1 h6) dL_law_1631 ?_
    refine lv_iload hx hb dL_law_1632 (lv_at hl 0 rfl) ?_
    refine q_eq0 (tgt := 1641) hx hb (by omega) dL_law_1634 (by decide) (fun h8 => ?_) (fun h8 => ?_)
    · skip
      refine lv_lconst (v := lN 0) hx hb dL_law_1641 (by decide) ?_
      refine W.lcmp hx hb dL_law_1642 ?_
      refine q_ti (y := nI 0) (by rw [h8]; decide +kernel) ?_
      refine q_eq0 (tgt := 1648) hx hb (by decide) dL_law_1643 (by decide) (fun h9 => ?_) (fun h9 => (by omega))
      refine lv_goto (tgt := 1997) hx hb dL_law_1648 (by decide) ?_
      refine va_forget (fun q hq => hS.2.2 q hq) ?_
      refine W.widen (k := cells + 24) (n := slots + 14000) (by omega) (by omega) ?_
      exact next σ2 R2 ad9 _ ls ⟨hv2, hR2, hw2, hW, hrW, ⟨_, hat1⟩, ⟨_, hat2⟩, hS.forget, hhz⟩ (by rw [hAE 0 0 (by decide) (fun z => absurd z (by decide))]; exact lv_sub hl [2, 3, 4, 5, 6, 7] rfl)
    · skip
      refine lv_lconst (v := 1) hx hb dL_law_1637 (by decide) ?_
      refine lv_goto (tgt := 1642) hx hb dL_law_1638 (by decide) ?_
      refine W.lcmp hx hb dL_law_1642 ?_
      refine q_ti (y := nI 0) (by rw [show w9 = 1 by omega]; decide +kernel) ?_
      refine q_eq0 (tgt := 1648) hx hb (by decide) dL_law_1643 (by decide) (fun h9 => ?_) (fun h9 => (by omega))
      refine lv_goto (tgt := 1997) hx hb dL_law_1648 (by decide) ?_
      refine va_forget (fun q hq => hS.2.2 q hq) ?_
      refine W.widen (k := cells + 24) (n := slots + 14000) (by omega) (by omega) ?_
      exact next σ2 R2 ad9 _ ls ⟨hv2, hR2, hw2, hW, hrW, ⟨_, hat1⟩, ⟨_, hat2⟩, hS.forget, hhz⟩ (by rw [hAE 0 0 (by decide) (fun z => absurd z (by decide))]; exact lv_sub hl [2, 3, 4, 5, 6, 7] rfl)
end CS
