/-- the law's own row of alerts: seven numbers an alert -/
def jAr (σ : QSt) (af : Nat → Int32) : Prop := ∀ k, k < σ 0 2 → af (7 * k) = nI (σ 144 k) ∧ af (7 * k + 1) = nI (σ 145 k) ∧ af (7 * k + 2) = nI (σ 146 k) - 1 ∧ af (7 * k + 3) = nI (σ 147 k) ∧ af (7 * k + 4) = nI (σ 128 k) ∧ af (7 * k + 5) = nI (σ 129 k) ∧ af (7 * k + 6) = nI (σ 130 k)
theorem l_z1 : vp_nar .boolean (nI 1) = nI 1 := by decide +kernel
theorem l_z0 : vp_nar .boolean (nI 0) = nI 0 := by decide +kernel
theorem l_idz1 {f : Nat → Int32} {n : Nat} (h : n < 1073741824) : upd f n (nI 1) = upd f (nI n).toNatClampNeg (vp_nar .boolean (nI 1)) := by rw [l_idx h, l_z1]
theorem l_idz0 {f : Nat → Int32} {n : Nat} (h : n < 1073741824) : upd f n (nI 0) = upd f (nI n).toNatClampNeg (vp_nar .boolean (nI 0)) := by rw [l_idx h, l_z0]
/-- a flag is put down -/
theorem l_fl {X : Nat → Nat} {g : Nat → Int32} {Y : Nat → Nat} {l n v : Nat} (e : (∀ l9, l9 < l → g l9 = nI (qB (0 < X l9 + Y l9))) ∧ ∀ l9, l ≤ l9 → l9 < n → g l9 = nI (qB (0 < X l9))) (hv : v = qB (0 < X l + Y l)) : (∀ l9, l9 < l + 1 → upd g l (nI v) l9 = nI (qB (0 < X l9 + Y l9))) ∧ ∀ l9, l + 1 ≤ l9 → l9 < n → upd g l (nI v) l9 = nI (qB (0 < X l9)) := by
  refine ⟨fun l9 h9 => ?_, fun l9 h9 h8 => ?_⟩
  · by_cases c : l9 = l
    · rw [c, pk_us, hv]
    · rw [pk_un c]; exact e.1 l9 (by omega)
  · rw [pk_un (by omega)]; exact e.2 l9 (by omega) h8
set_option maxHeartbeats 12000000 in
set_option maxRecDepth 100000 in
theorem k_areAlerts (l : Launch) (hst : l.stackTraces = false) (G : QG) (es : Nat) (A : Nat → Prop) (σ ad : QSt) (hv : zIv σ) (hj : jI σ) (zm za : Nat) (mf af : Nat → Int32) (hM : jM σ mf) (hL : jAr σ af) : Met l yL_areAlerts wsL_areAlerts ({ frames := 10, cells := 10, slots := 300, locals := 171 } : Room) (qLp G es A σ ad [(zm, .inl (G.2 1, 1400, .inl mf)), (za, .inl (G.2 1, 49, .inl af))] [.ref (ad 0 0), .ref (zm), .ref (za), .int (nI (σ 0 0)), .int (nI (σ 0 2))]) (qAP (some (.int (nI 1)))) 10 300 A := by
  refine Met.ofW (cc := cL_areAlerts) (maxL := 12) (ret := (some .boolean)) (by decide) rfl ?_
  intro p e s m args below meth c s₁ B hml hv
  obtain ⟨rfl, hC, hW0, hZ, hA, hT, hN, hP9⟩ := hv
  have hx := B.exec
  have hb := B.bytes
  have hr := B.returns
  have hts := atoms_spec (ws := wsL_areAlerts) B.pre
  have hown : s.vm.findClass RL = some m.cls := findClass_of_methodNamed B.named
  have hlocks := B.notSynchronized
  have hF := hv.1.wf
  have hn := hF.n
  have hB := hF.1
  have hat_m := hP9 0 _ rfl
  have hat_a := hP9 1 _ rfl
  have hS : va_S A s.heap s.heap [] := va_S.rf
  have hl := lv_entry ([.ref (ad 0 0), .ref (zm), .ref (za), .int (nI (σ 0 0)), .int (nI (σ 0 2))]) (n := 12) (Nat.le_of_ble_eq_true rfl)
  rw [lg_entry_eq]
  generalize (lg_sl ([.ref (ad 0 0), .ref (zm), .ref (za), .int (nI (σ 0 0)), .int (nI (σ 0 2))]) ++ List.replicate (12 - (lg_sl ([.ref (ad 0 0), .ref (zm), .ref (za), .int (nI (σ 0 0)), .int (nI (σ 0 2))])).length) Slot.unset).toArray = ls at hl ⊢
  have hl : lv_has ls 12 [(0, .ref (ad 0 0)), (1, .ref (zm)), (2, .ref (za)), (3, .int (nI (σ 0 0))), (4, .int (nI (σ 0 2)))] := hl
  have ho : qHo s.heap s.heap := qHo.rf
  refine lv_aload_n hx hb dL_areAlerts_0 rfl (lv_at hl 0 rfl) ?_
  refine lv_bipush (v := nI 9) hx hb dL_areAlerts_1 (by decide) ?_
  refine lv_iload hx hb dL_areAlerts_3 (lv_at hl 4 rfl) ?_
  refine lv_iconst (v := nI 0) hx hb dL_areAlerts_5 (by decide) ?_
  refine q_ask (vx_runSW (As := [.ref (ad 0 0), .int (nI 9), .int (nI (σ 0 2)), .int (nI 0)]) (rest := []) ⟨hx, hb, hml, hown, hts⟩ (bx_alertState1 l hst G es A σ ad hF (nI (σ 0 2)) (l_rInn (hB _ _)) (nI 0)) (vx_cwSW 4 hts gL_areAlerts_L_ask rfl rfl rfl (by decide +kernel) ⟨Nat.le_of_ble_eq_true rfl, Nat.le_of_ble_eq_true rfl⟩) ⟨qAk.blind, qAk.pre hC (hW0.same ho.2) (hZ.kept hS.2.1) (ho.up hA) hT hN⟩ rfl rfl hl.1 rfl (lv_room (Nat.le_of_ble_eq_true rfl)) dL_areAlerts_6 ⟨by show 0 + 1 ≤ 10; omega, by show 0 + 6 ≤ 300; omega⟩) hS (fun _ h => h) (fun H1 locs hz hk hS => ?_)
  have ho := ho.ext hz hk
  have hat_m := hat_m.kept (hk _ hat_m.lt)
  have hat_a := hat_a.kept (hk _ hat_a.lt)
  refine lv_sipush (v := -2001) hx hb dL_areAlerts_9 (by decide) ?_
  refine q_neP (P := True) (tgt := 50) hx hb (iff_of_true rfl trivial) dL_areAlerts_12 (by decide) (fun c1 => absurd trivial c1) (fun c1 => ?_)
  refine lv_aload_n hx hb dL_areAlerts_15 rfl (lv_at hl 0 rfl) ?_
  refine lv_bipush (v := nI 13) hx hb dL_areAlerts_16 (by decide) ?_
  refine lv_aload_n hx hb dL_areAlerts_18 rfl (lv_at hl 0 rfl) ?_
  refine q_v (va_runV (As := []) (rest := [.int (nI 13), .ref (ad 0 0)]) ⟨hx, hb, hml, hown, hts⟩ (m_firings l G es A σ ad hF) (cwV 0 hts gL_areAlerts_X7_firings rfl rfl rfl (by decide +kernel) ⟨Nat.le_of_ble_eq_true rfl, Nat.le_of_ble_eq_true rfl⟩) ⟨qR.blind, qrecv hC ((hW0.same ho.2).to qLV0) rfl, qR.pre hC (hW0.same ho.2)⟩ rfl rfl hl.1 rfl (lv_room (Nat.le_of_ble_eq_true rfl)) dL_areAlerts_19 ⟨by show 0 + 1 ≤ 10; omega, by show 0 + 6 ≤ 300; omega⟩) hS (fun _ h => h.elim) (fun locs hS => ?_)
  refine lv_iconst (v := nI 0) hx hb dL_areAlerts_22 (by decide) ?_
  refine q_ask (vx_runSW (As := [.ref (ad 0 0), .int (nI 13), .int (nI (σ 0 3)), .int (nI 0)]) (rest := []) ⟨hx, hb, hml, hown, hts⟩ (bx_alertOf1 l hst G es A σ ad hF (nI (σ 0 3)) (l_rInn (hB _ _)) (nI 0)) (vx_cwSW 4 hts gL_areAlerts_L_ask rfl rfl rfl (by decide +kernel) ⟨Nat.le_of_ble_eq_true rfl, Nat.le_of_ble_eq_true rfl⟩) ⟨qAk.blind, qAk.pre hC (hW0.same ho.2) (hZ.kept hS.2.1) (ho.up hA) hT hN⟩ rfl rfl hl.1 rfl (lv_room (Nat.le_of_ble_eq_true rfl)) dL_areAlerts_23 ⟨by show 0 + 1 + 1 ≤ 10; omega, by show 0 + 6 + 6 ≤ 300; omega⟩) hS (fun _ h => h) (fun H2 locs hz hk hS => ?_)
  have ho := ho.ext hz hk
  have hat_m := hat_m.kept (hk _ hat_m.lt)
  have hat_a := hat_a.kept (hk _ hat_a.lt)
  refine lv_sipush (v := -2005) hx hb dL_areAlerts_26 (by decide) ?_
  refine q_neP (P := True) (tgt := 50) hx hb (iff_of_true rfl trivial) dL_areAlerts_29 (by decide) (fun c1 => absurd trivial c1) (fun c1 => ?_)
  refine lv_aload_n hx hb dL_areAlerts_32 rfl (lv_at hl 0 rfl) ?_
  refine lv_bipush (v := nI 17) hx hb dL_areAlerts_33 (by decide) ?_
  refine lv_iload_n hx hb dL_areAlerts_35 rfl (lv_at hl 3 rfl) ?_
  refine lv_iconst (v := nI 0) hx hb dL_areAlerts_36 (by decide) ?_
  refine q_ask (vx_runSW (As := [.ref (ad 0 0), .int (nI 17), .int (nI (σ 0 0)), .int (nI 0)]) (rest := []) ⟨hx, hb, hml, hown, hts⟩ (bx_isGuarded1 l hst G es A σ ad hF (nI (σ 0 0)) (l_rInn (hB _ _)) (nI 0)) (vx_cwSW 4 hts gL_areAlerts_L_ask rfl rfl rfl (by decide +kernel) ⟨Nat.le_of_ble_eq_true rfl, Nat.le_of_ble_eq_true rfl⟩) ⟨qAk.blind, qAk.pre hC (hW0.same ho.2) (hZ.kept hS.2.1) (ho.up hA) hT hN⟩ rfl rfl hl.1 rfl (lv_room (Nat.le_of_ble_eq_true rfl)) dL_areAlerts_37 ⟨by show 0 + 1 + 1 + 1 ≤ 10; omega, by show 0 + 6 + 6 + 6 ≤ 300; omega⟩) hS (fun _ h => h) (fun H3 locs hz hk hS => ?_)
  have ho := ho.ext hz hk
  have hat_m := hat_m.kept (hk _ hat_m.lt)
  have hat_a := hat_a.kept (hk _ hat_a.lt)
  refine lv_sipush (v := -2005) hx hb dL_areAlerts_40 (by decide) ?_
  refine q_neP (P := True) (tgt := 50) hx hb (iff_of_true rfl trivial) dL_areAlerts_43 (by decide) (fun c1 => absurd trivial c1) (fun c1 => ?_)
  refine lv_iconst (v := nI 1) hx hb dL_areAlerts_46 (by decide) ?_
  refine lv_goto (tgt := 51) hx hb dL_areAlerts_47 (by decide) ?_
  refine lv_istore (lv' := [(5, .int (nI 1)), (0, .ref (ad 0 0)), (1, .ref (zm)), (2, .ref (za)), (3, .int (nI (σ 0 0))), (4, .int (nI (σ 0 2)))]) hx hb dL_areAlerts_51 hl (by decide) rfl (fun ls hl => ?_)
  refine lv_sipush (v := nI 200) hx hb dL_areAlerts_53 (by decide) ?_
  refine q_newa (atype := .boolean) (ty := .boolean) (cA0 := G.2 3) hx hb (hts (.arrayClass .boolean) (List.mem_of_getElem? (i := 1) (by decide +kernel))) rfl hC.1 3 rfl (fun C z => by cases z) hS (n := nI 200) (N' := 200) (200, .inl (fun _ => 0)) (fun cA => (vp_cell_i cA 200 _).trans (congrArg (arrV cA 200) (funext fun _ => rfl))) (nI_pos (by decide)) (nI_clamp (by decide)) (by show 200 * 1 ≤ 536870912; omega) (by show 0 + 1 + 1 + 1 + 1 ≤ 10; omega) (by show 0 + 6 + 6 + 6 + 200 ≤ 300; omega) dL_areAlerts_56 (fun H4 hat_gd hz_gd hk hS => ?_)
  have hl_gd_m : zm < H3.size := hat_m.lt
  have hat_m := hat_m.kept (hk _ hat_m.lt)
  have hl_gd_a : za < H3.size := hat_a.lt
  have hat_a := hat_a.kept (hk _ hat_a.lt)
  have hx_gd : s.heap.size ≤ H3.size := ho.1
  have ho := ho.ext (Nat.le_of_lt (by omega : H3.size < H4.size)) hk
  refine lv_astore (lv' := [(6, .ref (H3.size)), (5, .int (nI 1)), (0, .ref (ad 0 0)), (1, .ref (zm)), (2, .ref (za)), (3, .int (nI (σ 0 0))), (4, .int (nI (σ 0 2)))]) hx hb dL_areAlerts_58 hl (by decide) rfl (fun ls hl => ?_)
  refine lv_iconst (v := nI 0) hx hb dL_areAlerts_60 (by decide) ?_
  refine lv_istore (lv' := [(7, .int (nI 0)), (6, .ref (H3.size)), (5, .int (nI 1)), (0, .ref (ad 0 0)), (1, .ref (zm)), (2, .ref (za)), (3, .int (nI (σ 0 0))), (4, .int (nI (σ 0 2)))]) hx hb dL_areAlerts_61 hl (by decide) rfl (fun ls hl => ?_)
  refine q_up (σ 0 2) (fun i H locs ls => qHo s.heap H ∧ va_S A s.heap H locs ∧ ∃ (gw1 : Nat → Int32), (∀ l9, l9 < σ 0 0 → gw1 l9 = nI (qB (0 < qsum (fun a9 => qB (qcn σ a9 l9)) i))) ∧ va_at G.1 vwCl (zm, .inl (G.2 1, 1400, .inl mf)) H ∧ va_at G.1 vwCl (za, .inl (G.2 1, 49, .inl af)) H ∧ va_at G.1 vwCl (H3.size, .inl (G.2 3, 200, .inl gw1)) H ∧ lv_has ls 12 [(0, .ref (ad 0 0)), (1, .ref (zm)), (2, .ref (za)), (3, .int (nI (σ 0 0))), (4, .int (nI (σ 0 2))), (5, .int (nI 1)), (6, .ref (H3.size)), (7, .int (nI i))]) ?_ ?_ (i0 := 0) (Nat.zero_le _) ⟨ho, hS, (fun _ => 0), fun _ _ => rfl, hat_m, hat_a, hat_gd, lv_sub hl [3, 4, 5, 6, 7, 2, 1, 0] rfl⟩
  · rintro H5 locs ls ⟨ho, hS, gw1, e_gw1, hat_m, hat_a, hat_gd, hl⟩
    refine lv_iload hx hb dL_areAlerts_63 (lv_at hl 7 rfl) ?_
    refine lv_iload hx hb dL_areAlerts_65 (lv_at hl 4 rfl) ?_
    refine q_ge (tgt := 387) hx hb (q31 (hB _ _)) (q31 (hB _ _)) dL_areAlerts_67 (by decide) (fun gq1 => ?_) (fun gq1 => (by omega))
    refine lv_iconst (v := nI 0) hx hb dL_areAlerts_387 (by decide) ?_
    refine lv_istore (lv' := [(7, .int (nI 0)), (0, .ref (ad 0 0)), (1, .ref (zm)), (2, .ref (za)), (3, .int (nI (σ 0 0))), (4, .int (nI (σ 0 2))), (5, .int (nI 1)), (6, .ref (H3.size))]) hx hb dL_areAlerts_388 hl (by decide) rfl (fun ls hl => ?_)
    refine q_up (σ 0 3) (fun i H locs ls => qHo s.heap H ∧ va_S A s.heap H locs ∧ ∃ (gw3 : Nat → Int32), (∀ l9, l9 < σ 0 0 → gw3 l9 = nI (qB (0 < (qsum (fun a9 => qB (qcn σ a9 l9)) (σ 0 2) + qsum (fun f9 => qB (σ (1000 + f9) l9 = 1)) i)))) ∧ va_at G.1 vwCl (zm, .inl (G.2 1, 1400, .inl mf)) H ∧ va_at G.1 vwCl (za, .inl (G.2 1, 49, .inl af)) H ∧ va_at G.1 vwCl (H3.size, .inl (G.2 3, 200, .inl gw3)) H ∧ lv_has ls 12 [(0, .ref (ad 0 0)), (1, .ref (zm)), (2, .ref (za)), (3, .int (nI (σ 0 0))), (4, .int (nI (σ 0 2))), (5, .int (nI 1)), (6, .ref (H3.size)), (7, .int (nI i))]) ?_ ?_ (i0 := 0) (Nat.zero_le _) ⟨ho, hS, gw1, fun l9 h9 => (e_gw1 l9 h9).trans (by rw [show qsum (fun f9 => qB (σ (1000 + f9) l9 = 1)) 0 = 0 from rfl, Nat.add_zero]), hat_m, hat_a, hat_gd, lv_sub hl [1, 2, 3, 4, 5, 6, 7, 0] rfl⟩
    · rintro H6 locs ls ⟨ho, hS, gw3, e_gw3, hat_m, hat_a, hat_gd, hl⟩
      refine lv_iload hx hb dL_areAlerts_390 (lv_at hl 7 rfl) ?_
      refine lv_aload_n hx hb dL_areAlerts_392 rfl (lv_at hl 0 rfl) ?_
      refine q_v (va_runV (As := []) (rest := [.int (nI (σ 0 3))]) ⟨hx, hb, hml, hown, hts⟩ (m_firings l G es A σ ad hF) (cwV 0 hts gL_areAlerts_X7_firings rfl rfl rfl (by decide +kernel) ⟨Nat.le_of_ble_eq_true rfl, Nat.le_of_ble_eq_true rfl⟩) ⟨qR.blind, qrecv hC ((hW0.same ho.2).to qLV0) rfl, qR.pre hC (hW0.same ho.2)⟩ rfl rfl hl.1 rfl (lv_room (Nat.le_of_ble_eq_true rfl)) dL_areAlerts_393 ⟨by show 0 + 1 + 1 + 1 + 1 ≤ 10; omega, by show 0 + 6 + 6 + 6 + 200 ≤ 300; omega⟩) hS (fun _ h => h.elim) (fun locs hS => ?_)
      refine q_ge (tgt := 557) hx hb (q31 (hB _ _)) (q31 (hB _ _)) dL_areAlerts_396 (by decide) (fun gq2 => ?_) (fun gq2 => (by omega))
      refine lv_iconst (v := nI 0) hx hb dL_areAlerts_557 (by decide) ?_
      refine lv_istore (lv' := [(7, .int (nI 0)), (0, .ref (ad 0 0)), (1, .ref (zm)), (2, .ref (za)), (3, .int (nI (σ 0 0))), (4, .int (nI (σ 0 2))), (5, .int (nI 1)), (6, .ref (H3.size))]) hx hb dL_areAlerts_558 hl (by decide) rfl (fun ls hl => ?_)
      refine q_up (σ 0 0) (fun z H locs ls => qHo s.heap H ∧ va_S A s.heap H locs ∧ va_at G.1 vwCl (zm, .inl (G.2 1, 1400, .inl mf)) H ∧ va_at G.1 vwCl (za, .inl (G.2 1, 49, .inl af)) H ∧ va_at G.1 vwCl (H3.size, .inl (G.2 3, 200, .inl gw3)) H ∧ lv_has ls 12 [(0, .ref (ad 0 0)), (1, .ref (zm)), (2, .ref (za)), (3, .int (nI (σ 0 0))), (4, .int (nI (σ 0 2))), (5, .int (nI 1)), (6, .ref (H3.size)), (7, .int (nI z))]) ?_ ?_ (i0 := 0) (Nat.zero_le _) ⟨ho, hS, hat_m, hat_a, hat_gd, lv_sub hl [1, 2, 3, 4, 5, 6, 7, 0] rfl⟩
      · rintro H7 locs ls ⟨ho, hS, hat_m, hat_a, hat_gd, hl⟩
        refine lv_iload hx hb dL_areAlerts_560 (lv_at hl 7 rfl) ?_
        refine lv_iload_n hx hb dL_areAlerts_562 rfl (lv_at hl 3 rfl) ?_
        refine q_ge (tgt := 625) hx hb (q31 (hB _ _)) (q31 (hB _ _)) dL_areAlerts_563 (by decide) (fun gq3 => ?_) (fun gq3 => (by omega))
        refine lv_iload hx hb dL_areAlerts_625 (lv_at hl 5 rfl) ?_
        refine W.widen (k := 10) (n := 300) (by omega) (by omega) ?_
        exact W.zret (v := nI 1) hx hb hr rfl (fun t ht _ => ⟨rfl, by rw [ht]; exact ho⟩) hS.2.2 dL_areAlerts_627
      · rintro z H8 locs ls hi_z ⟨ho, hS, hat_m, hat_a, hat_gd, hl⟩ ih_z
        refine lv_iload hx hb dL_areAlerts_560 (lv_at hl 7 rfl) ?_
        refine lv_iload_n hx hb dL_areAlerts_562 rfl (lv_at hl 3 rfl) ?_
        refine q_ge (tgt := 625) hx hb (by omega) (q31 (hB _ _)) dL_areAlerts_563 (by decide) (fun gq4 => (by omega)) (fun gq4 => ?_)
        refine lv_iload hx hb dL_areAlerts_566 (lv_at hl 5 rfl) ?_
        refine q_eq0 (tgt := 625) hx hb (by decide) dL_areAlerts_568 (by decide) (fun gq5 => (by omega)) (fun gq5 => ?_)
        have e70 := hv.1.ig.2.2.1 z hi_z
        have e70b : σ 70 z = qsum (fun a9 => qB (qcn σ a9 z)) (σ 0 2) + qsum (fun f9 => qB (σ (1000 + f9) z = 1)) (σ 0 3) := e70
        refine lv_aload_n hx hb dL_areAlerts_571 rfl (lv_at hl 0 rfl) ?_
        refine lv_bipush (v := nI 17) hx hb dL_areAlerts_572 (by decide) ?_
        refine lv_iload hx hb dL_areAlerts_574 (lv_at hl 7 rfl) ?_
        refine lv_iconst (v := nI 0) hx hb dL_areAlerts_576 (by decide) ?_
        refine q_v (vx_runSW (As := [.ref (ad 0 0), .int (nI 17), .int (nI z), .int (nI 0)]) (rest := []) ⟨hx, hb, hml, hown, hts⟩ (b_isGuarded l G es A σ ad hF z hi_z (nI 0)) (vx_cwSW 4 hts gL_areAlerts_L_ask rfl rfl rfl (by decide +kernel) ⟨Nat.le_of_ble_eq_true rfl, Nat.le_of_ble_eq_true rfl⟩) ⟨qR.blind, qR.pre hC (hW0.same ho.2)⟩ rfl rfl hl.1 rfl (lv_room (Nat.le_of_ble_eq_true rfl)) dL_areAlerts_577 ⟨by show 0 + 1 + 1 + 1 + 1 ≤ 10; omega, by show 0 + 6 + 6 + 6 + 200 ≤ 300; omega⟩) hS (fun _ h => h.elim) (fun locs hS => ?_)
        by_cases hq : 0 < σ 70 z
        · skip
          refine q_ti (y := nI 1) (by rw [qB_t hq]) ?_
          refine lv_aload hx hb dL_areAlerts_580 (lv_at hl 6 rfl) ?_
          refine lv_iload hx hb dL_areAlerts_582 (lv_at hl 7 rfl) ?_
          refine r_zald hx hb hC.1 hat_gd 3 rfl (i := z) (by omega) (by decide) (v := nI 1) ((e_gw3 z hi_z).trans (by rw [← e70b, qB_t hq])) dL_areAlerts_584 ?_
          refine q_eq0 (tgt := 605) hx hb (by decide) dL_areAlerts_585 (by decide) (fun gq6 => (by omega)) (fun gq6 => ?_)
          refine lv_aload_n hx hb dL_areAlerts_588 rfl (lv_at hl 0 rfl) ?_
          refine lv_iconst (v := nI 0) hx hb dL_areAlerts_589 (by decide) ?_
          refine lv_iload hx hb dL_areAlerts_590 (lv_at hl 7 rfl) ?_
          refine lv_iconst (v := nI 0) hx hb dL_areAlerts_592 (by decide) ?_
          refine q_v (vx_runSW (As := [.ref (ad 0 0), .int (nI 0), .int (nI z), .int (nI 0)]) (rest := [.int (nI 1)]) ⟨hx, hb, hml, hown, hts⟩ (b_stateOf l G es A σ ad hF z hi_z (nI 0)) (vx_cwSW 4 hts gL_areAlerts_L_ask rfl rfl rfl (by decide +kernel) ⟨Nat.le_of_ble_eq_true rfl, Nat.le_of_ble_eq_true rfl⟩) ⟨qR.blind, qR.pre hC (hW0.same ho.2)⟩ rfl rfl hl.1 rfl (lv_room (Nat.le_of_ble_eq_true rfl)) dL_areAlerts_593 ⟨by show 0 + 1 + 1 + 1 + 1 ≤ 10; omega, by show 0 + 6 + 6 + 6 + 200 ≤ 300; omega⟩) hS (fun _ h => h.elim) (fun locs hS => ?_)
          refine lv_bipush (v := nI 100) hx hb dL_areAlerts_596 (by decide) ?_
          refine q_eq (tgt := 605) hx hb (q31 (hB _ _)) (by decide) dL_areAlerts_598 (by decide) (fun c8 => absurd (hv.1.io.2.1 z hi_z c8) (by omega)) (fun c8 => ?_)
          refine lv_iconst (v := nI 1) hx hb dL_areAlerts_601 (by decide) ?_
          refine lv_goto (tgt := 606) hx hb dL_areAlerts_602 (by decide) ?_
          refine q_v (va_runS (As := [.int (nI 1)]) (rest := [.int (nI 1)]) ⟨hx, hb, hml, hown, hts⟩ (a_told l 1 (by decide)) (va_cwS 1 hts gL_areAlerts_L_told rfl rfl rfl (by decide +kernel) ⟨Nat.le_of_ble_eq_true rfl, Nat.le_of_ble_eq_true rfl⟩) ⟨qU.blind, qU.pre⟩ rfl rfl hl.1 rfl (lv_room (Nat.le_of_ble_eq_true rfl)) dL_areAlerts_606 ⟨by show 0 + 1 + 1 + 1 + 1 ≤ 10; omega, by show 0 + 6 + 6 + 6 + 200 ≤ 300; omega⟩) hS (fun _ h => h.elim) (fun locs hS => ?_)
          refine q_ne (tgt := 616) hx hb (by decide) (by decide) dL_areAlerts_609 (by decide) (fun gq7 => (by omega)) (fun gq7 => ?_)
          refine lv_iconst (v := nI 1) hx hb dL_areAlerts_612 (by decide) ?_
          refine lv_goto (tgt := 617) hx hb dL_areAlerts_613 (by decide) ?_
          refine lv_istore (lv' := [(5, .int (nI 1)), (0, .ref (ad 0 0)), (1, .ref (zm)), (2, .ref (za)), (3, .int (nI (σ 0 0))), (4, .int (nI (σ 0 2))), (6, .ref (H3.size)), (7, .int (nI z))]) hx hb dL_areAlerts_617 hl (by decide) rfl (fun ls hl => ?_)
          refine lv_iinc (v := nI (z + 1)) (lv' := [(7, .int (nI (z + 1))), (5, .int (nI 1)), (0, .ref (ad 0 0)), (1, .ref (zm)), (2, .ref (za)), (3, .int (nI (σ 0 0))), (4, .int (nI (σ 0 2))), (6, .ref (H3.size))]) hx hb dL_areAlerts_619 hl (k := 7) rfl (nI_1 z) (by decide) rfl (fun ls hl => ?_)
          refine lv_goto (tgt := 560) hx hb dL_areAlerts_622 (by decide) ?_
          exact ih_z _ locs ls ⟨ho, hS, hat_m, hat_a, hat_gd, lv_sub hl [2, 3, 4, 5, 6, 1, 7, 0] rfl⟩
        · skip
          refine q_ti (y := nI 0) (by rw [qB_f hq]) ?_
          refine lv_aload hx hb dL_areAlerts_580 (lv_at hl 6 rfl) ?_
          refine lv_iload hx hb dL_areAlerts_582 (lv_at hl 7 rfl) ?_
          refine r_zald hx hb hC.1 hat_gd 3 rfl (i := z) (by omega) (by decide) (v := nI 0) ((e_gw3 z hi_z).trans (by rw [← e70b, qB_f hq])) dL_areAlerts_584 ?_
          refine q_eq0 (tgt := 605) hx hb (by decide) dL_areAlerts_585 (by decide) (fun gq8 => ?_) (fun gq8 => (by omega))
          refine lv_iconst (v := nI 0) hx hb dL_areAlerts_605 (by decide) ?_
          refine q_v (va_runS (As := [.int (nI 0)]) (rest := [.int (nI 0)]) ⟨hx, hb, hml, hown, hts⟩ (a_told l 0 (by decide)) (va_cwS 1 hts gL_areAlerts_L_told rfl rfl rfl (by decide +kernel) ⟨Nat.le_of_ble_eq_true rfl, Nat.le_of_ble_eq_true rfl⟩) ⟨qU.blind, qU.pre⟩ rfl rfl hl.1 rfl (lv_room (Nat.le_of_ble_eq_true rfl)) dL_areAlerts_606 ⟨by show 0 + 1 + 1 + 1 + 1 ≤ 10; omega, by show 0 + 6 + 6 + 6 + 200 ≤ 300; omega⟩) hS (fun _ h => h.elim) (fun locs hS => ?_)
          refine q_ne (tgt := 616) hx hb (by decide) (by decide) dL_areAlerts_609 (by decide) (fun gq9 => (by omega)) (fun gq9 => ?_)
          refine lv_iconst (v := nI 1) hx hb dL_areAlerts_612 (by decide) ?_
          refine lv_goto (tgt := 617) hx hb dL_areAlerts_613 (by decide) ?_
          refine lv_istore (lv' := [(5, .int (nI 1)), (0, .ref (ad 0 0)), (1, .ref (zm)), (2, .ref (za)), (3, .int (nI (σ 0 0))), (4, .int (nI (σ 0 2))), (6, .ref (H3.size)), (7, .int (nI z))]) hx hb dL_areAlerts_617 hl (by decide) rfl (fun ls hl => ?_)
          refine lv_iinc (v := nI (z + 1)) (lv' := [(7, .int (nI (z + 1))), (5, .int (nI 1)), (0, .ref (ad 0 0)), (1, .ref (zm)), (2, .ref (za)), (3, .int (nI (σ 0 0))), (4, .int (nI (σ 0 2))), (6, .ref (H3.size))]) hx hb dL_areAlerts_619 hl (k := 7) rfl (nI_1 z) (by decide) rfl (fun ls hl => ?_)
          refine lv_goto (tgt := 560) hx hb dL_areAlerts_622 (by decide) ?_
          exact ih_z _ locs ls ⟨ho, hS, hat_m, hat_a, hat_gd, lv_sub hl [2, 3, 4, 5, 6, 1, 7, 0] rfl⟩
    · rintro i H9 locs ls hi_i ⟨ho, hS, gw3, e_gw3, hat_m, hat_a, hat_gd, hl⟩ ih_i
      refine lv_iload hx hb dL_areAlerts_390 (lv_at hl 7 rfl) ?_
      refine lv_aload_n hx hb dL_areAlerts_392 rfl (lv_at hl 0 rfl) ?_
      refine q_v (va_runV (As := []) (rest := [.int (nI i)]) ⟨hx, hb, hml, hown, hts⟩ (m_firings l G es A σ ad hF) (cwV 0 hts gL_areAlerts_X7_firings rfl rfl rfl (by decide +kernel) ⟨Nat.le_of_ble_eq_true rfl, Nat.le_of_ble_eq_true rfl⟩) ⟨qR.blind, qrecv hC ((hW0.same ho.2).to qLV0) rfl, qR.pre hC (hW0.same ho.2)⟩ rfl rfl hl.1 rfl (lv_room (Nat.le_of_ble_eq_true rfl)) dL_areAlerts_393 ⟨by show 0 + 1 + 1 + 1 + 1 ≤ 10; omega, by show 0 + 6 + 6 + 6 + 200 ≤ 300; omega⟩) hS (fun _ h => h.elim) (fun locs hS => ?_)
      refine q_ge (tgt := 557) hx hb (by omega) (q31 (hB _ _)) dL_areAlerts_396 (by decide) (fun gq10 => (by omega)) (fun gq10 => ?_)
      refine lv_iload hx hb dL_areAlerts_399 (lv_at hl 5 rfl) ?_
      refine q_eq0 (tgt := 557) hx hb (by decide) dL_areAlerts_401 (by decide) (fun gq11 => (by omega)) (fun gq11 => ?_)
      obtain ⟨q1, q2, q3, q4⟩ := hv.1.2.2.2.1 i hi_i
      have h161 := hj.2.1.2 i hi_i
      have h160 := hF.alt hi_i
      refine lv_iconst (v := nI 0) hx hb dL_areAlerts_404 (by decide) ?_
      refine lv_istore (lv' := [(8, .int (nI 0)), (0, .ref (ad 0 0)), (1, .ref (zm)), (2, .ref (za)), (3, .int (nI (σ 0 0))), (4, .int (nI (σ 0 2))), (5, .int (nI 1)), (6, .ref (H3.size)), (7, .int (nI i))]) hx hb dL_areAlerts_405 hl (by decide) rfl (fun ls hl => ?_)
      refine lv_iconst (v := nI 0) hx hb dL_areAlerts_407 (by decide) ?_
      refine lv_istore (lv' := [(9, .int (nI 0)), (8, .int (nI 0)), (0, .ref (ad 0 0)), (1, .ref (zm)), (2, .ref (za)), (3, .int (nI (σ 0 0))), (4, .int (nI (σ 0 2))), (5, .int (nI 1)), (6, .ref (H3.size)), (7, .int (nI i))]) hx hb dL_areAlerts_408 hl (by decide) rfl (fun ls hl => ?_)
      refine q_up (σ 0 0) (fun z H locs ls => qHo s.heap H ∧ va_S A s.heap H locs ∧ ∃ (gr : Nat), (gr = qsum (fun l9 => qB (σ (1000 + i) l9 = 1)) z) ∧ ∃ (gw4 : Nat → Int32), ((∀ l9, l9 < z → gw4 l9 = nI (qB (0 < (fun l8 => (qsum (fun a9 => qB (qcn σ a9 l8)) (σ 0 2) + qsum (fun f9 => qB (σ (1000 + f9) l8 = 1)) i)) l9 + (fun l8 => qB (σ (1000 + i) l8 = 1)) l9))) ∧ ∀ l9, z ≤ l9 → l9 < σ 0 0 → gw4 l9 = nI (qB (0 < (fun l8 => (qsum (fun a9 => qB (qcn σ a9 l8)) (σ 0 2) + qsum (fun f9 => qB (σ (1000 + f9) l8 = 1)) i)) l9))) ∧ va_at G.1 vwCl (zm, .inl (G.2 1, 1400, .inl mf)) H ∧ va_at G.1 vwCl (za, .inl (G.2 1, 49, .inl af)) H ∧ va_at G.1 vwCl (H3.size, .inl (G.2 3, 200, .inl gw4)) H ∧ lv_has ls 12 [(0, .ref (ad 0 0)), (1, .ref (zm)), (2, .ref (za)), (3, .int (nI (σ 0 0))), (4, .int (nI (σ 0 2))), (5, .int (nI 1)), (6, .ref (H3.size)), (7, .int (nI i)), (8, .int (nI gr)), (9, .int (nI z))]) ?_ ?_ (i0 := 0) (Nat.zero_le _) ⟨ho, hS, 0, rfl, gw3, ⟨fun _ y9 => absurd y9 (Nat.not_lt_zero _), fun l9 _ h9 => e_gw3 l9 h9⟩, hat_m, hat_a, hat_gd, lv_sub hl [2, 3, 4, 5, 6, 7, 8, 9, 1, 0] rfl⟩
      · rintro H10 locs ls ⟨ho, hS, gr, e_gr, gw4, e_gw4, hat_m, hat_a, hat_gd, hl⟩
        refine lv_iload hx hb dL_areAlerts_410 (lv_at hl 9 rfl) ?_
        refine lv_iload_n hx hb dL_areAlerts_412 rfl (lv_at hl 3 rfl) ?_
        refine q_ge (tgt := 495) hx hb (q31 (hB _ _)) (q31 (hB _ _)) dL_areAlerts_413 (by decide) (fun gq12 => ?_) (fun gq12 => (by omega))
        have egr := q2.trans e_gr.symm
        have hb163 := hB 163 i
        refine lv_iload hx hb dL_areAlerts_495 (lv_at hl 5 rfl) ?_
        refine q_eq0 (tgt := 548) hx hb (by decide) dL_areAlerts_497 (by decide) (fun gq13 => (by omega)) (fun gq13 => ?_)
        refine lv_aload_n hx hb dL_areAlerts_500 rfl (lv_at hl 0 rfl) ?_
        refine lv_bipush (v := nI 15) hx hb dL_areAlerts_501 (by decide) ?_
        refine lv_iload hx hb dL_areAlerts_503 (lv_at hl 7 rfl) ?_
        refine lv_iconst (v := nI 0) hx hb dL_areAlerts_505 (by decide) ?_
        refine q_v (vx_runSW (As := [.ref (ad 0 0), .int (nI 15), .int (nI i), .int (nI 0)]) (rest := []) ⟨hx, hb, hml, hown, hts⟩ (b_ground l G es A σ ad hF i hi_i (nI 0)) (vx_cwSW 4 hts gL_areAlerts_L_ask rfl rfl rfl (by decide +kernel) ⟨Nat.le_of_ble_eq_true rfl, Nat.le_of_ble_eq_true rfl⟩) ⟨qR.blind, qR.pre hC (hW0.same ho.2)⟩ rfl rfl hl.1 rfl (lv_room (Nat.le_of_ble_eq_true rfl)) dL_areAlerts_506 ⟨by show 0 + 1 + 1 + 1 + 1 ≤ 10; omega, by show 0 + 6 + 6 + 6 + 200 ≤ 300; omega⟩) hS (fun _ h => h.elim) (fun locs hS => ?_)
        refine lv_iload hx hb dL_areAlerts_509 (lv_at hl 8 rfl) ?_
        refine q_ne (tgt := 548) hx hb (q31 (hB _ _)) (by omega) dL_areAlerts_511 (by decide) (fun gq14 => (by omega)) (fun gq14 => ?_)
        refine lv_aload_n hx hb dL_areAlerts_514 rfl (lv_at hl 0 rfl) ?_
        refine lv_bipush (v := nI 14) hx hb dL_areAlerts_515 (by decide) ?_
        refine lv_iload hx hb dL_areAlerts_517 (lv_at hl 7 rfl) ?_
        refine lv_iconst (v := nI 0) hx hb dL_areAlerts_519 (by decide) ?_
        refine q_v (vx_runSW (As := [.ref (ad 0 0), .int (nI 14), .int (nI i), .int (nI 0)]) (rest := []) ⟨hx, hb, hml, hown, hts⟩ (b_firedAt l G es A σ ad hF i hi_i (nI 0)) (vx_cwSW 4 hts gL_areAlerts_L_ask rfl rfl rfl (by decide +kernel) ⟨Nat.le_of_ble_eq_true rfl, Nat.le_of_ble_eq_true rfl⟩) ⟨qR.blind, qR.pre hC (hW0.same ho.2)⟩ rfl rfl hl.1 rfl (lv_room (Nat.le_of_ble_eq_true rfl)) dL_areAlerts_520 ⟨by show 0 + 1 + 1 + 1 + 1 ≤ 10; omega, by show 0 + 6 + 6 + 6 + 200 ≤ 300; omega⟩) hS (fun _ h => h.elim) (fun locs hS => ?_)
        refine lv_aload_n hx hb dL_areAlerts_523 rfl (lv_at hl 0 rfl) ?_
        refine q_v (va_runV (As := []) (rest := [.int (nI (σ 161 i))]) ⟨hx, hb, hml, hown, hts⟩ (m_tick l G es A σ ad hF) (cwV 0 hts gL_areAlerts_X7_tick rfl rfl rfl (by decide +kernel) ⟨Nat.le_of_ble_eq_true rfl, Nat.le_of_ble_eq_true rfl⟩) ⟨qR.blind, qrecv hC ((hW0.same ho.2).to qLV0) rfl, qR.pre hC (hW0.same ho.2)⟩ rfl rfl hl.1 rfl (lv_room (Nat.le_of_ble_eq_true rfl)) dL_areAlerts_524 ⟨by show 0 + 1 + 1 + 1 + 1 ≤ 10; omega, by show 0 + 6 + 6 + 6 + 200 ≤ 300; omega⟩) hS (fun _ h => h.elim) (fun locs hS => ?_)
        refine q_gt (tgt := 548) hx hb (q31 (hB _ _)) (q31 (hB _ _)) dL_areAlerts_527 (by decide) (fun gq15 => (by omega)) (fun gq15 => ?_)
        refine lv_aload_n hx hb dL_areAlerts_530 rfl (lv_at hl 0 rfl) ?_
        refine lv_bipush (v := nI 13) hx hb dL_areAlerts_531 (by decide) ?_
        refine lv_iload hx hb dL_areAlerts_533 (lv_at hl 7 rfl) ?_
        refine lv_iconst (v := nI 0) hx hb dL_areAlerts_535 (by decide) ?_
        refine q_v (vx_runSW (As := [.ref (ad 0 0), .int (nI 13), .int (nI i), .int (nI 0)]) (rest := []) ⟨hx, hb, hml, hown, hts⟩ (b_alertOf l G es A σ ad hF i hi_i (nI 0)) (vx_cwSW 4 hts gL_areAlerts_L_ask rfl rfl rfl (by decide +kernel) ⟨Nat.le_of_ble_eq_true rfl, Nat.le_of_ble_eq_true rfl⟩) ⟨qR.blind, qR.pre hC (hW0.same ho.2)⟩ rfl rfl hl.1 rfl (lv_room (Nat.le_of_ble_eq_true rfl)) dL_areAlerts_536 ⟨by show 0 + 1 + 1 + 1 + 1 ≤ 10; omega, by show 0 + 6 + 6 + 6 + 200 ≤ 300; omega⟩) hS (fun _ h => h.elim) (fun locs hS => ?_)
        refine lv_iload hx hb dL_areAlerts_539 (lv_at hl 4 rfl) ?_
        refine q_ge (tgt := 548) hx hb (q31 (hB _ _)) (q31 (hB _ _)) dL_areAlerts_541 (by decide) (fun gq16 => (by omega)) (fun gq16 => ?_)
        refine lv_iconst (v := nI 1) hx hb dL_areAlerts_544 (by decide) ?_
        refine lv_goto (tgt := 549) hx hb dL_areAlerts_545 (by decide) ?_
        refine lv_istore (lv' := [(5, .int (nI 1)), (0, .ref (ad 0 0)), (1, .ref (zm)), (2, .ref (za)), (3, .int (nI (σ 0 0))), (4, .int (nI (σ 0 2))), (6, .ref (H3.size)), (7, .int (nI i)), (8, .int (nI gr)), (9, .int (nI (σ 0 0)))]) hx hb dL_areAlerts_549 hl (by decide) rfl (fun ls hl => ?_)
        refine lv_iinc (v := nI (i + 1)) (lv' := [(7, .int (nI (i + 1))), (5, .int (nI 1)), (0, .ref (ad 0 0)), (1, .ref (zm)), (2, .ref (za)), (3, .int (nI (σ 0 0))), (4, .int (nI (σ 0 2))), (6, .ref (H3.size)), (8, .int (nI gr)), (9, .int (nI (σ 0 0)))]) hx hb dL_areAlerts_551 hl (k := 7) rfl (nI_1 i) (by decide) rfl (fun ls hl => ?_)
        refine lv_goto (tgt := 390) hx hb dL_areAlerts_554 (by decide) ?_
        exact ih_i _ locs ls ⟨ho, hS, gw4, (fun l9 h9 => (e_gw4.1 l9 h9).trans (by rw [qsum, Nat.add_assoc])), hat_m, hat_a, hat_gd, lv_sub hl [2, 3, 4, 5, 6, 1, 7, 0] rfl⟩
      · rintro z H11 locs ls hi_z ⟨ho, hS, gr, e_gr, gw4, e_gw4, hat_m, hat_a, hat_gd, hl⟩ ih_z
        refine lv_iload hx hb dL_areAlerts_410 (lv_at hl 9 rfl) ?_
        refine lv_iload_n hx hb dL_areAlerts_412 rfl (lv_at hl 3 rfl) ?_
        refine q_ge (tgt := 495) hx hb (by omega) (q31 (hB _ _)) dL_areAlerts_413 (by decide) (fun gq17 => (by omega)) (fun gq17 => ?_)
        refine lv_aload_n hx hb dL_areAlerts_416 rfl (lv_at hl 0 rfl) ?_
        refine lv_bipush (v := nI 16) hx hb dL_areAlerts_417 (by decide) ?_
        refine lv_iload hx hb dL_areAlerts_419 (lv_at hl 7 rfl) ?_
        refine lv_iload hx hb dL_areAlerts_421 (lv_at hl 9 rfl) ?_
        refine q_v (vx_runSW (As := [.ref (ad 0 0), .int (nI 16), .int (nI i), .int (nI z)]) (rest := []) ⟨hx, hb, hml, hown, hts⟩ (b_standsOn l G es A σ ad hF i z hi_i hi_z) (vx_cwSW 4 hts gL_areAlerts_L_ask rfl rfl rfl (by decide +kernel) ⟨Nat.le_of_ble_eq_true rfl, Nat.le_of_ble_eq_true rfl⟩) ⟨qR.blind, qR.pre hC (hW0.same ho.2)⟩ rfl rfl hl.1 rfl (lv_room (Nat.le_of_ble_eq_true rfl)) dL_areAlerts_423 ⟨by show 0 + 1 + 1 + 1 + 1 ≤ 10; omega, by show 0 + 6 + 6 + 6 + 200 ≤ 300; omega⟩) hS (fun _ h => h.elim) (fun locs hS => ?_)
        by_cases hq : σ (1000 + i) z = 1
        · skip
          refine q_ti (y := nI 1) (by rw [qB_t hq]) ?_
          refine lv_istore (lv' := [(10, .int (nI 1)), (0, .ref (ad 0 0)), (1, .ref (zm)), (2, .ref (za)), (3, .int (nI (σ 0 0))), (4, .int (nI (σ 0 2))), (5, .int (nI 1)), (6, .ref (H3.size)), (7, .int (nI i)), (8, .int (nI gr)), (9, .int (nI z))]) hx hb dL_areAlerts_426 hl (by decide) rfl (fun ls hl => ?_)
          refine lv_iload hx hb dL_areAlerts_428 (lv_at hl 9 rfl) ?_
          refine lv_iload hx hb dL_areAlerts_430 (lv_at hl 0 rfl) ?_
          refine lv_iadd hx hb dL_areAlerts_432 ?_
          refine q_ti (nI_add gr 1) ?_
          refine lv_istore (lv' := [(8, .int (nI (gr + 1))), (10, .int (nI 1)), (0, .ref (ad 0 0)), (1, .ref (zm)), (2, .ref (za)), (3, .int (nI (σ 0 0))), (4, .int (nI (σ 0 2))), (5, .int (nI 1)), (6, .ref (H3.size)), (7, .int (nI i)), (9, .int (nI z))]) hx hb dL_areAlerts_433 hl (by decide) rfl (fun ls hl => ?_)
          refine lv_aload hx hb dL_areAlerts_435 (lv_at hl 8 rfl) ?_
          refine lv_iload hx hb dL_areAlerts_437 (lv_at hl 10 rfl) ?_
          refine lv_aload hx hb dL_areAlerts_439 (lv_at hl 8 rfl) ?_
          refine lv_iload hx hb dL_areAlerts_441 (lv_at hl 10 rfl) ?_
          refine r_zald hx hb hC.1 hat_gd 3 rfl (i := z) (by omega) (by decide) (v := nI (qB (0 < (fun l8 => (qsum (fun a9 => qB (qcn σ a9 l8)) (σ 0 2) + qsum (fun f9 => qB (σ (1000 + f9) l8 = 1)) i)) z))) (e_gw4.2 z (Nat.le_refl _) hi_z) dL_areAlerts_443 ?_
          refine q_ne0 (tgt := 453) hx hb q_31B dL_areAlerts_444 (by decide) (fun c9 => ?_) (fun c9 => ?_)
          · skip
            refine lv_iconst (v := nI 1) hx hb dL_areAlerts_453 (by decide) ?_
            refine lv_goto (tgt := 458) hx hb dL_areAlerts_454 (by decide) ?_
            refine q_zast hx hb hC.1 hat_gd (hA _ hx_gd) hS 3 rfl (vp_in_nI (n := z) (by omega) (by omega)) dL_areAlerts_458 (fun H12 locs hat9 hsz hoq hS => ?_)
            have hat_m := hat_m.kept (hoq _ (by omega))
            have hat_a := hat_a.kept (hoq _ (by omega))
            have hat_gd : va_at G.1 vwCl (H3.size, .inl (G.2 3, 200, .inl (upd gw4 z (nI 1)))) H12 := by rw [show (upd gw4 z (nI 1)) = _ from (l_idz1 (by omega))]; exact hat9
            have ho := ho.put hsz hoq hx_gd
            refine lv_iload hx hb dL_areAlerts_459 (lv_at hl 7 rfl) ?_
            refine q_eq0 (tgt := 486) hx hb (by decide) dL_areAlerts_461 (by decide) (fun gq18 => (by omega)) (fun gq18 => ?_)
            refine lv_iload hx hb dL_areAlerts_464 (lv_at hl 1 rfl) ?_
            refine q_eq0 (tgt := 482) hx hb (by decide) dL_areAlerts_466 (by decide) (fun gq19 => (by omega)) (fun gq19 => ?_)
            refine lv_aload_n hx hb dL_areAlerts_469 rfl (lv_at hl 2 rfl) ?_
            refine lv_iconst (v := nI 0) hx hb dL_areAlerts_470 (by decide) ?_
            refine lv_iload hx hb dL_areAlerts_471 (lv_at hl 10 rfl) ?_
            refine lv_iconst (v := nI 0) hx hb dL_areAlerts_473 (by decide) ?_
            refine q_v (vx_runSW (As := [.ref (ad 0 0), .int (nI 0), .int (nI z), .int (nI 0)]) (rest := []) ⟨hx, hb, hml, hown, hts⟩ (b_stateOf l G es A σ ad hF z hi_z (nI 0)) (vx_cwSW 4 hts gL_areAlerts_L_ask rfl rfl rfl (by decide +kernel) ⟨Nat.le_of_ble_eq_true rfl, Nat.le_of_ble_eq_true rfl⟩) ⟨qR.blind, qR.pre hC (hW0.same ho.2)⟩ rfl rfl hl.1 rfl (lv_room (Nat.le_of_ble_eq_true rfl)) dL_areAlerts_474 ⟨by show 0 + 1 + 1 + 1 + 1 ≤ 10; omega, by show 0 + 6 + 6 + 6 + 200 ≤ 300; omega⟩) hS (fun _ h => h.elim) (fun locs hS => ?_)
            refine lv_bipush (v := nI 100) hx hb dL_areAlerts_477 (by decide) ?_
            refine q_eq (tgt := 486) hx hb (q31 (hB _ _)) (by decide) dL_areAlerts_479 (by decide) (fun c8 => absurd hq ((l_snd hv).2.1 z hi_z c8 i hi_i)) (fun c8 => ?_)
            refine lv_iconst (v := nI 1) hx hb dL_areAlerts_482 (by decide) ?_
            refine lv_goto (tgt := 487) hx hb dL_areAlerts_483 (by decide) ?_
            refine lv_istore (lv' := [(5, .int (nI 1)), (8, .int (nI (gr + 1))), (10, .int (nI 1)), (0, .ref (ad 0 0)), (1, .ref (zm)), (2, .ref (za)), (3, .int (nI (σ 0 0))), (4, .int (nI (σ 0 2))), (6, .ref (H3.size)), (7, .int (nI i)), (9, .int (nI z))]) hx hb dL_areAlerts_487 hl (by decide) rfl (fun ls hl => ?_)
            refine lv_iinc (v := nI (z + 1)) (lv' := [(9, .int (nI (z + 1))), (5, .int (nI 1)), (8, .int (nI (gr + 1))), (10, .int (nI 1)), (0, .ref (ad 0 0)), (1, .ref (zm)), (2, .ref (za)), (3, .int (nI (σ 0 0))), (4, .int (nI (σ 0 2))), (6, .ref (H3.size)), (7, .int (nI i))]) hx hb dL_areAlerts_489 hl (k := 10) rfl (nI_1 z) (by decide) rfl (fun ls hl => ?_)
            refine lv_goto (tgt := 410) hx hb dL_areAlerts_492 (by decide) ?_
            exact ih_z _ locs ls ⟨ho, hS, (gr + 1), (by rw [e_gr, qsum, qB_t hq]), (upd gw4 z (nI 1)), (l_fl (X := (fun l8 => (qsum (fun a9 => qB (qcn σ a9 l8)) (σ 0 2) + qsum (fun f9 => qB (σ (1000 + f9) l8 = 1)) i))) (Y := (fun l8 => qB (σ (1000 + i) l8 = 1))) e_gw4 (qB_t (Nat.lt_of_lt_of_le (r_un c9) (Nat.le_add_right _ _))).symm), hat_m, hat_a, hat_gd, lv_sub hl [4, 5, 6, 7, 8, 1, 9, 10, 2, 0] rfl⟩
          · skip
            refine lv_iload hx hb dL_areAlerts_447 (lv_at hl 1 rfl) ?_
            refine lv_iconst (v := nI 1) hx hb dL_areAlerts_449 (by decide) ?_
            refine q_ne (tgt := 457) hx hb (by decide) (by decide) dL_areAlerts_450 (by decide) (fun gq20 => (by omega)) (fun gq20 => ?_)
            refine lv_iconst (v := nI 1) hx hb dL_areAlerts_453 (by decide) ?_
            refine lv_goto (tgt := 458) hx hb dL_areAlerts_454 (by decide) ?_
            refine q_zast hx hb hC.1 hat_gd (hA _ hx_gd) hS 3 rfl (vp_in_nI (n := z) (by omega) (by omega)) dL_areAlerts_458 (fun H13 locs hat9 hsz hoq hS => ?_)
            have hat_m := hat_m.kept (hoq _ (by omega))
            have hat_a := hat_a.kept (hoq _ (by omega))
            have hat_gd : va_at G.1 vwCl (H3.size, .inl (G.2 3, 200, .inl (upd gw4 z (nI 1)))) H13 := by rw [show (upd gw4 z (nI 1)) = _ from (l_idz1 (by omega))]; exact hat9
            have ho := ho.put hsz hoq hx_gd
            refine lv_iload hx hb dL_areAlerts_459 (lv_at hl 7 rfl) ?_
            refine q_eq0 (tgt := 486) hx hb (by decide) dL_areAlerts_461 (by decide) (fun gq21 => (by omega)) (fun gq21 => ?_)
            refine lv_iload hx hb dL_areAlerts_464 (lv_at hl 1 rfl) ?_
            refine q_eq0 (tgt := 482) hx hb (by decide) dL_areAlerts_466 (by decide) (fun gq22 => (by omega)) (fun gq22 => ?_)
            refine lv_aload_n hx hb dL_areAlerts_469 rfl (lv_at hl 2 rfl) ?_
            refine lv_iconst (v := nI 0) hx hb dL_areAlerts_470 (by decide) ?_
            refine lv_iload hx hb dL_areAlerts_471 (lv_at hl 10 rfl) ?_
            refine lv_iconst (v := nI 0) hx hb dL_areAlerts_473 (by decide) ?_
            refine q_v (vx_runSW (As := [.ref (ad 0 0), .int (nI 0), .int (nI z), .int (nI 0)]) (rest := []) ⟨hx, hb, hml, hown, hts⟩ (b_stateOf l G es A σ ad hF z hi_z (nI 0)) (vx_cwSW 4 hts gL_areAlerts_L_ask rfl rfl rfl (by decide +kernel) ⟨Nat.le_of_ble_eq_true rfl, Nat.le_of_ble_eq_true rfl⟩) ⟨qR.blind, qR.pre hC (hW0.same ho.2)⟩ rfl rfl hl.1 rfl (lv_room (Nat.le_of_ble_eq_true rfl)) dL_areAlerts_474 ⟨by show 0 + 1 + 1 + 1 + 1 ≤ 10; omega, by show 0 + 6 + 6 + 6 + 200 ≤ 300; omega⟩) hS (fun _ h => h.elim) (fun locs hS => ?_)
            refine lv_bipush (v := nI 100) hx hb dL_areAlerts_477 (by decide) ?_
            refine q_eq (tgt := 486) hx hb (q31 (hB _ _)) (by decide) dL_areAlerts_479 (by decide) (fun c8 => absurd hq ((l_snd hv).2.1 z hi_z c8 i hi_i)) (fun c8 => ?_)
            refine lv_iconst (v := nI 1) hx hb dL_areAlerts_482 (by decide) ?_
            refine lv_goto (tgt := 487) hx hb dL_areAlerts_483 (by decide) ?_
            refine lv_istore (lv' := [(5, .int (nI 1)), (8, .int (nI (gr + 1))), (10, .int (nI 1)), (0, .ref (ad 0 0)), (1, .ref (zm)), (2, .ref (za)), (3, .int (nI (σ 0 0))), (4, .int (nI (σ 0 2))), (6, .ref (H3.size)), (7, .int (nI i)), (9, .int (nI z))]) hx hb dL_areAlerts_487 hl (by decide) rfl (fun ls hl => ?_)
            refine lv_iinc (v := nI (z + 1)) (lv' := [(9, .int (nI (z + 1))), (5, .int (nI 1)), (8, .int (nI (gr + 1))), (10, .int (nI 1)), (0, .ref (ad 0 0)), (1, .ref (zm)), (2, .ref (za)), (3, .int (nI (σ 0 0))), (4, .int (nI (σ 0 2))), (6, .ref (H3.size)), (7, .int (nI i))]) hx hb dL_areAlerts_489 hl (k := 10) rfl (nI_1 z) (by decide) rfl (fun ls hl => ?_)
            refine lv_goto (tgt := 410) hx hb dL_areAlerts_492 (by decide) ?_
            exact ih_z _ locs ls ⟨ho, hS, (gr + 1), (by rw [e_gr, qsum, qB_t hq]), (upd gw4 z (nI 1)), (l_fl (X := (fun l8 => (qsum (fun a9 => qB (qcn σ a9 l8)) (σ 0 2) + qsum (fun f9 => qB (σ (1000 + f9) l8 = 1)) i))) (Y := (fun l8 => qB (σ (1000 + i) l8 = 1))) e_gw4 (qB_t (by show 0 < _ + qB (σ (1000 + i) z = 1); rw [qB_t hq]; omega)).symm), hat_m, hat_a, hat_gd, lv_sub hl [4, 5, 6, 7, 8, 1, 9, 10, 2, 0] rfl⟩
        · skip
          refine q_ti (y := nI 0) (by rw [qB_f hq]) ?_
          refine lv_istore (lv' := [(10, .int (nI 0)), (0, .ref (ad 0 0)), (1, .ref (zm)), (2, .ref (za)), (3, .int (nI (σ 0 0))), (4, .int (nI (σ 0 2))), (5, .int (nI 1)), (6, .ref (H3.size)), (7, .int (nI i)), (8, .int (nI gr)), (9, .int (nI z))]) hx hb dL_areAlerts_426 hl (by decide) rfl (fun ls hl => ?_)
          refine lv_iload hx hb dL_areAlerts_428 (lv_at hl 9 rfl) ?_
          refine lv_iload hx hb dL_areAlerts_430 (lv_at hl 0 rfl) ?_
          refine lv_iadd hx hb dL_areAlerts_432 ?_
          refine q_ti (nI_add gr 0) ?_
          refine lv_istore (lv' := [(8, .int (nI (gr + 0))), (10, .int (nI 0)), (0, .ref (ad 0 0)), (1, .ref (zm)), (2, .ref (za)), (3, .int (nI (σ 0 0))), (4, .int (nI (σ 0 2))), (5, .int (nI 1)), (6, .ref (H3.size)), (7, .int (nI i)), (9, .int (nI z))]) hx hb dL_areAlerts_433 hl (by decide) rfl (fun ls hl => ?_)
          refine lv_aload hx hb dL_areAlerts_435 (lv_at hl 8 rfl) ?_
          refine lv_iload hx hb dL_areAlerts_437 (lv_at hl 10 rfl) ?_
          refine lv_aload hx hb dL_areAlerts_439 (lv_at hl 8 rfl) ?_
          refine lv_iload hx hb dL_areAlerts_441 (lv_at hl 10 rfl) ?_
          refine r_zald hx hb hC.1 hat_gd 3 rfl (i := z) (by omega) (by decide) (v := nI (qB (0 < (fun l8 => (qsum (fun a9 => qB (qcn σ a9 l8)) (σ 0 2) + qsum (fun f9 => qB (σ (1000 + f9) l8 = 1)) i)) z))) (e_gw4.2 z (Nat.le_refl _) hi_z) dL_areAlerts_443 ?_
          refine q_ne0 (tgt := 453) hx hb q_31B dL_areAlerts_444 (by decide) (fun c9 => ?_) (fun c9 => ?_)
          · skip
            refine lv_iconst (v := nI 1) hx hb dL_areAlerts_453 (by decide) ?_
            refine lv_goto (tgt := 458) hx hb dL_areAlerts_454 (by decide) ?_
            refine q_zast hx hb hC.1 hat_gd (hA _ hx_gd) hS 3 rfl (vp_in_nI (n := z) (by omega) (by omega)) dL_areAlerts_458 (fun H14 locs hat9 hsz hoq hS => ?_)
            have hat_m := hat_m.kept (hoq _ (by omega))
            have hat_a := hat_a.kept (hoq _ (by omega))
            have hat_gd : va_at G.1 vwCl (H3.size, .inl (G.2 3, 200, .inl (upd gw4 z (nI 1)))) H14 := by rw [show (upd gw4 z (nI 1)) = _ from (l_idz1 (by omega))]; exact hat9
            have ho := ho.put hsz hoq hx_gd
            refine lv_iload hx hb dL_areAlerts_459 (lv_at hl 7 rfl) ?_
            refine q_eq0 (tgt := 486) hx hb (by decide) dL_areAlerts_461 (by decide) (fun gq23 => (by omega)) (fun gq23 => ?_)
            refine lv_iload hx hb dL_areAlerts_464 (lv_at hl 1 rfl) ?_
            refine q_eq0 (tgt := 482) hx hb (by decide) dL_areAlerts_466 (by decide) (fun gq24 => ?_) (fun gq24 => (by omega))
            refine lv_iconst (v := nI 1) hx hb dL_areAlerts_482 (by decide) ?_
            refine lv_goto (tgt := 487) hx hb dL_areAlerts_483 (by decide) ?_
            refine lv_istore (lv' := [(5, .int (nI 1)), (8, .int (nI (gr + 0))), (10, .int (nI 0)), (0, .ref (ad 0 0)), (1, .ref (zm)), (2, .ref (za)), (3, .int (nI (σ 0 0))), (4, .int (nI (σ 0 2))), (6, .ref (H3.size)), (7, .int (nI i)), (9, .int (nI z))]) hx hb dL_areAlerts_487 hl (by decide) rfl (fun ls hl => ?_)
            refine lv_iinc (v := nI (z + 1)) (lv' := [(9, .int (nI (z + 1))), (5, .int (nI 1)), (8, .int (nI (gr + 0))), (10, .int (nI 0)), (0, .ref (ad 0 0)), (1, .ref (zm)), (2, .ref (za)), (3, .int (nI (σ 0 0))), (4, .int (nI (σ 0 2))), (6, .ref (H3.size)), (7, .int (nI i))]) hx hb dL_areAlerts_489 hl (k := 10) rfl (nI_1 z) (by decide) rfl (fun ls hl => ?_)
            refine lv_goto (tgt := 410) hx hb dL_areAlerts_492 (by decide) ?_
            exact ih_z _ locs ls ⟨ho, hS, (gr + 0), (by rw [e_gr, qsum, qB_f hq]), (upd gw4 z (nI 1)), (l_fl (X := (fun l8 => (qsum (fun a9 => qB (qcn σ a9 l8)) (σ 0 2) + qsum (fun f9 => qB (σ (1000 + f9) l8 = 1)) i))) (Y := (fun l8 => qB (σ (1000 + i) l8 = 1))) e_gw4 (qB_t (Nat.lt_of_lt_of_le (r_un c9) (Nat.le_add_right _ _))).symm), hat_m, hat_a, hat_gd, lv_sub hl [4, 5, 6, 7, 8, 1, 9, 10, 2, 0] rfl⟩
          · skip
            refine lv_iload hx hb dL_areAlerts_447 (lv_at hl 1 rfl) ?_
            refine lv_iconst (v := nI 1) hx hb dL_areAlerts_449 (by decide) ?_
            refine q_ne (tgt := 457) hx hb (by decide) (by decide) dL_areAlerts_450 (by decide) (fun gq25 => ?_) (fun gq25 => (by omega))
            refine lv_iconst (v := nI 0) hx hb dL_areAlerts_457 (by decide) ?_
            refine q_zast hx hb hC.1 hat_gd (hA _ hx_gd) hS 3 rfl (vp_in_nI (n := z) (by omega) (by omega)) dL_areAlerts_458 (fun H15 locs hat9 hsz hoq hS => ?_)
            have hat_m := hat_m.kept (hoq _ (by omega))
            have hat_a := hat_a.kept (hoq _ (by omega))
            have hat_gd : va_at G.1 vwCl (H3.size, .inl (G.2 3, 200, .inl (upd gw4 z (nI 0)))) H15 := by rw [show (upd gw4 z (nI 0)) = _ from (l_idz0 (by omega))]; exact hat9
            have ho := ho.put hsz hoq hx_gd
            refine lv_iload hx hb dL_areAlerts_459 (lv_at hl 7 rfl) ?_
            refine q_eq0 (tgt := 486) hx hb (by decide) dL_areAlerts_461 (by decide) (fun gq26 => (by omega)) (fun gq26 => ?_)
            refine lv_iload hx hb dL_areAlerts_464 (lv_at hl 1 rfl) ?_
            refine q_eq0 (tgt := 482) hx hb (by decide) dL_areAlerts_466 (by decide) (fun gq27 => ?_) (fun gq27 => (by omega))
            refine lv_iconst (v := nI 1) hx hb dL_areAlerts_482 (by decide) ?_
            refine lv_goto (tgt := 487) hx hb dL_areAlerts_483 (by decide) ?_
            refine lv_istore (lv' := [(5, .int (nI 1)), (8, .int (nI (gr + 0))), (10, .int (nI 0)), (0, .ref (ad 0 0)), (1, .ref (zm)), (2, .ref (za)), (3, .int (nI (σ 0 0))), (4, .int (nI (σ 0 2))), (6, .ref (H3.size)), (7, .int (nI i)), (9, .int (nI z))]) hx hb dL_areAlerts_487 hl (by decide) rfl (fun ls hl => ?_)
            refine lv_iinc (v := nI (z + 1)) (lv' := [(9, .int (nI (z + 1))), (5, .int (nI 1)), (8, .int (nI (gr + 0))), (10, .int (nI 0)), (0, .ref (ad 0 0)), (1, .ref (zm)), (2, .ref (za)), (3, .int (nI (σ 0 0))), (4, .int (nI (σ 0 2))), (6, .ref (H3.size)), (7, .int (nI i))]) hx hb dL_areAlerts_489 hl (k := 10) rfl (nI_1 z) (by decide) rfl (fun ls hl => ?_)
            refine lv_goto (tgt := 410) hx hb dL_areAlerts_492 (by decide) ?_
            exact ih_z _ locs ls ⟨ho, hS, (gr + 0), (by rw [e_gr, qsum, qB_f hq]), (upd gw4 z (nI 0)), (l_fl (X := (fun l8 => (qsum (fun a9 => qB (qcn σ a9 l8)) (σ 0 2) + qsum (fun f9 => qB (σ (1000 + f9) l8 = 1)) i))) (Y := (fun l8 => qB (σ (1000 + i) l8 = 1))) e_gw4 (qB_f (by show ¬ 0 < (qsum (fun a9 => qB (qcn σ a9 z)) (σ 0 2) + qsum (fun f9 => qB (σ (1000 + f9) z = 1)) i) + qB (σ (1000 + i) z = 1); rw [qB_f hq]; exact fun y9 => l_qB0 c9 y9)).symm), hat_m, hat_a, hat_gd, lv_sub hl [4, 5, 6, 7, 8, 1, 9, 10, 2, 0] rfl⟩
  · rintro i H16 locs ls hi_i ⟨ho, hS, gw1, e_gw1, hat_m, hat_a, hat_gd, hl⟩ ih_i
    refine lv_iload hx hb dL_areAlerts_63 (lv_at hl 7 rfl) ?_
    refine lv_iload hx hb dL_areAlerts_65 (lv_at hl 4 rfl) ?_
    refine q_ge (tgt := 387) hx hb (by omega) (q31 (hB _ _)) dL_areAlerts_67 (by decide) (fun gq28 => (by omega)) (fun gq28 => ?_)
    refine lv_iload hx hb dL_areAlerts_70 (lv_at hl 5 rfl) ?_
    refine q_eq0 (tgt := 387) hx hb (by decide) dL_areAlerts_72 (by decide) (fun gq29 => (by omega)) (fun gq29 => ?_)
    have hP3 := hF.plc hi_i
    obtain ⟨f0, f1, f2, f3, f4, f5, f6⟩ := hL i hi_i
    refine lv_iconst (v := nI 0) hx hb dL_areAlerts_75 (by decide) ?_
    refine lv_istore (lv' := [(8, .int (nI 0)), (0, .ref (ad 0 0)), (1, .ref (zm)), (2, .ref (za)), (3, .int (nI (σ 0 0))), (4, .int (nI (σ 0 2))), (5, .int (nI 1)), (6, .ref (H3.size)), (7, .int (nI i))]) hx hb dL_areAlerts_76 hl (by decide) rfl (fun ls hl => ?_)
    refine lv_bipush (v := nI 7) hx hb dL_areAlerts_78 (by decide) ?_
    refine lv_iload hx hb dL_areAlerts_80 (lv_at hl 8 rfl) ?_
    refine lv_imul hx hb dL_areAlerts_82 ?_
    refine q_ti (pk_mul 7 i) ?_
    refine lv_istore (lv' := [(9, .int (nI (7 * i))), (8, .int (nI 0)), (0, .ref (ad 0 0)), (1, .ref (zm)), (2, .ref (za)), (3, .int (nI (σ 0 0))), (4, .int (nI (σ 0 2))), (5, .int (nI 1)), (6, .ref (H3.size)), (7, .int (nI i))]) hx hb dL_areAlerts_83 hl (by decide) rfl (fun ls hl => ?_)
    refine lv_iconst (v := nI 0) hx hb dL_areAlerts_85 (by decide) ?_
    refine lv_istore (lv' := [(10, .int (nI 0)), (9, .int (nI (7 * i))), (8, .int (nI 0)), (0, .ref (ad 0 0)), (1, .ref (zm)), (2, .ref (za)), (3, .int (nI (σ 0 0))), (4, .int (nI (σ 0 2))), (5, .int (nI 1)), (6, .ref (H3.size)), (7, .int (nI i))]) hx hb dL_areAlerts_86 hl (by decide) rfl (fun ls hl => ?_)
    refine q_up (σ 0 0) (fun z H locs ls => qHo s.heap H ∧ va_S A s.heap H locs ∧ ∃ (nn : Nat), (nn = qsum (fun l9 => qB (qcn σ i l9)) z) ∧ ∃ (gw2 : Nat → Int32), ((∀ l9, l9 < z → gw2 l9 = nI (qB (0 < (fun l8 => qsum (fun a9 => qB (qcn σ a9 l8)) i) l9 + (fun l8 => qB (qcn σ i l8)) l9))) ∧ ∀ l9, z ≤ l9 → l9 < σ 0 0 → gw2 l9 = nI (qB (0 < (fun l8 => qsum (fun a9 => qB (qcn σ a9 l8)) i) l9))) ∧ va_at G.1 vwCl (zm, .inl (G.2 1, 1400, .inl mf)) H ∧ va_at G.1 vwCl (za, .inl (G.2 1, 49, .inl af)) H ∧ va_at G.1 vwCl (H3.size, .inl (G.2 3, 200, .inl gw2)) H ∧ lv_has ls 12 [(0, .ref (ad 0 0)), (1, .ref (zm)), (2, .ref (za)), (3, .int (nI (σ 0 0))), (4, .int (nI (σ 0 2))), (5, .int (nI 1)), (6, .ref (H3.size)), (7, .int (nI i)), (9, .int (nI (7 * i))), (8, .int (nI nn)), (10, .int (nI z))]) ?_ ?_ (i0 := 0) (Nat.zero_le _) ⟨ho, hS, 0, rfl, gw1, ⟨fun _ y9 => absurd y9 (Nat.not_lt_zero _), fun l9 _ h9 => e_gw1 l9 h9⟩, hat_m, hat_a, hat_gd, lv_sub hl [3, 4, 5, 6, 7, 8, 9, 10, 1, 2, 0] rfl⟩
    · rintro H17 locs ls ⟨ho, hS, nn, e_nn, gw2, e_gw2, hat_m, hat_a, hat_gd, hl⟩
      refine lv_iload hx hb dL_areAlerts_88 (lv_at hl 10 rfl) ?_
      refine lv_iload_n hx hb dL_areAlerts_90 rfl (lv_at hl 3 rfl) ?_
      refine q_ge (tgt := 248) hx hb (q31 (hB _ _)) (q31 (hB _ _)) dL_areAlerts_91 (by decide) (fun gq30 => ?_) (fun gq30 => (by omega))
      have e132 : σ 132 i = nn := (hv.1.ig.2.1 i hi_i).trans e_nn.symm
      have hlk := hv.2.1 i hi_i
      obtain ⟨a1, a2, a3, a4, a5, a6, a7, a8, a9, a10⟩ := hv.1.ia i hi_i
      have h130 := hj.2.1.1 i hi_i
      have hb132 := hB 132 i
      refine lv_aload_n hx hb dL_areAlerts_248 rfl (lv_at hl 0 rfl) ?_
      refine lv_bipush (v := nI 9) hx hb dL_areAlerts_249 (by decide) ?_
      refine lv_iload hx hb dL_areAlerts_251 (lv_at hl 7 rfl) ?_
      refine lv_iconst (v := nI 0) hx hb dL_areAlerts_253 (by decide) ?_
      refine q_v (vx_runSW (As := [.ref (ad 0 0), .int (nI 9), .int (nI i), .int (nI 0)]) (rest := []) ⟨hx, hb, hml, hown, hts⟩ (b_alertState l G es A σ ad hF i hi_i (nI 0)) (vx_cwSW 4 hts gL_areAlerts_L_ask rfl rfl rfl (by decide +kernel) ⟨Nat.le_of_ble_eq_true rfl, Nat.le_of_ble_eq_true rfl⟩) ⟨qR.blind, qR.pre hC (hW0.same ho.2)⟩ rfl rfl hl.1 rfl (lv_room (Nat.le_of_ble_eq_true rfl)) dL_areAlerts_254 ⟨by show 0 + 1 + 1 + 1 + 1 ≤ 10; omega, by show 0 + 6 + 6 + 6 + 200 ≤ 300; omega⟩) hS (fun _ h => h.elim) (fun locs hS => ?_)
      refine lv_istore (lv' := [(10, .int (nI (σ 131 i))), (0, .ref (ad 0 0)), (1, .ref (zm)), (2, .ref (za)), (3, .int (nI (σ 0 0))), (4, .int (nI (σ 0 2))), (5, .int (nI 1)), (6, .ref (H3.size)), (7, .int (nI i)), (9, .int (nI (7 * i))), (8, .int (nI nn))]) hx hb dL_areAlerts_257 hl (by decide) rfl (fun ls hl => ?_)
      refine lv_aload_n hx hb dL_areAlerts_259 rfl (lv_at hl 1 rfl) ?_
      refine lv_bipush (v := nI 10) hx hb dL_areAlerts_260 (by decide) ?_
      refine lv_iload hx hb dL_areAlerts_262 (lv_at hl 8 rfl) ?_
      refine lv_iconst (v := nI 0) hx hb dL_areAlerts_264 (by decide) ?_
      refine q_v (vx_runSW (As := [.ref (ad 0 0), .int (nI 10), .int (nI i), .int (nI 0)]) (rest := []) ⟨hx, hb, hml, hown, hts⟩ (b_counted l G es A σ ad hF i hi_i (nI 0)) (vx_cwSW 4 hts gL_areAlerts_L_ask rfl rfl rfl (by decide +kernel) ⟨Nat.le_of_ble_eq_true rfl, Nat.le_of_ble_eq_true rfl⟩) ⟨qR.blind, qR.pre hC (hW0.same ho.2)⟩ rfl rfl hl.1 rfl (lv_room (Nat.le_of_ble_eq_true rfl)) dL_areAlerts_265 ⟨by show 0 + 1 + 1 + 1 + 1 ≤ 10; omega, by show 0 + 6 + 6 + 6 + 200 ≤ 300; omega⟩) hS (fun _ h => h.elim) (fun locs hS => ?_)
      refine lv_iload hx hb dL_areAlerts_268 (lv_at hl 10 rfl) ?_
      refine q_ne (tgt := 378) hx hb (q31 (hB _ _)) (by omega) dL_areAlerts_270 (by decide) (fun gq31 => (by omega)) (fun gq31 => ?_)
      refine lv_aload_n hx hb dL_areAlerts_273 rfl (lv_at hl 1 rfl) ?_
      refine lv_bipush (v := nI 11) hx hb dL_areAlerts_274 (by decide) ?_
      refine lv_iload hx hb dL_areAlerts_276 (lv_at hl 8 rfl) ?_
      refine lv_iconst (v := nI 0) hx hb dL_areAlerts_278 (by decide) ?_
      refine q_v (vx_runSW (As := [.ref (ad 0 0), .int (nI 11), .int (nI i), .int (nI 0)]) (rest := []) ⟨hx, hb, hml, hown, hts⟩ (b_countedAnew l G es A σ ad hF i hi_i (nI 0)) (vx_cwSW 4 hts gL_areAlerts_L_ask rfl rfl rfl (by decide +kernel) ⟨Nat.le_of_ble_eq_true rfl, Nat.le_of_ble_eq_true rfl⟩) ⟨qR.blind, qR.pre hC (hW0.same ho.2)⟩ rfl rfl hl.1 rfl (lv_room (Nat.le_of_ble_eq_true rfl)) dL_areAlerts_279 ⟨by show 0 + 1 + 1 + 1 + 1 ≤ 10; omega, by show 0 + 6 + 6 + 6 + 200 ≤ 300; omega⟩) hS (fun _ h => h.elim) (fun locs hS => ?_)
      refine q_ti (y := nI nn) (by rw [e_nn]; rfl) ?_
      refine lv_iload hx hb dL_areAlerts_282 (lv_at hl 10 rfl) ?_
      refine q_ne (tgt := 378) hx hb (by omega) (by omega) dL_areAlerts_284 (by decide) (fun gq32 => (by omega)) (fun gq32 => ?_)
      refine lv_iload hx hb dL_areAlerts_287 (lv_at hl 0 rfl) ?_
      refine lv_bipush (v := nI 104) hx hb dL_areAlerts_289 (by decide) ?_
      refine q_ne (tgt := 298) hx hb (q31 (hB _ _)) (by decide) dL_areAlerts_291 (by decide) (fun c3 => ?_) (fun c3 => ?_)
      · skip
        have h133 := a3 c3
        refine lv_iconst (v := nI 0) hx hb dL_areAlerts_298 (by decide) ?_
        refine lv_aload_n hx hb dL_areAlerts_299 rfl (lv_at hl 1 rfl) ?_
        refine lv_bipush (v := nI 12) hx hb dL_areAlerts_300 (by decide) ?_
        refine lv_iload hx hb dL_areAlerts_302 (lv_at hl 8 rfl) ?_
        refine lv_iconst (v := nI 0) hx hb dL_areAlerts_304 (by decide) ?_
        refine q_v (vx_runSW (As := [.ref (ad 0 0), .int (nI 12), .int (nI i), .int (nI 0)]) (rest := [.int (nI 0)]) ⟨hx, hb, hml, hown, hts⟩ (b_heldFor l G es A σ ad hF i hi_i (nI 0)) (vx_cwSW 4 hts gL_areAlerts_L_ask rfl rfl rfl (by decide +kernel) ⟨Nat.le_of_ble_eq_true rfl, Nat.le_of_ble_eq_true rfl⟩) ⟨qR.blind, qR.pre hC (hW0.same ho.2)⟩ rfl rfl hl.1 rfl (lv_room (Nat.le_of_ble_eq_true rfl)) dL_areAlerts_305 ⟨by show 0 + 1 + 1 + 1 + 1 ≤ 10; omega, by show 0 + 6 + 6 + 6 + 200 ≤ 300; omega⟩) hS (fun _ h => h.elim) (fun locs hS => ?_)
        refine q_le0 (tgt := 315) hx hb (q31 (hB _ _)) dL_areAlerts_308 (by decide) (fun gq33 => ?_) (fun gq33 => (by omega))
        refine lv_iconst (v := nI 0) hx hb dL_areAlerts_315 (by decide) ?_
        refine q_ne (tgt := 378) hx hb (by decide) (by decide) dL_areAlerts_316 (by decide) (fun gq34 => (by omega)) (fun gq34 => ?_)
        refine lv_aload_n hx hb dL_areAlerts_319 rfl (lv_at hl 1 rfl) ?_
        refine lv_bipush (v := nI 12) hx hb dL_areAlerts_320 (by decide) ?_
        refine lv_iload hx hb dL_areAlerts_322 (lv_at hl 8 rfl) ?_
        refine lv_iconst (v := nI 0) hx hb dL_areAlerts_324 (by decide) ?_
        refine q_v (vx_runSW (As := [.ref (ad 0 0), .int (nI 12), .int (nI i), .int (nI 0)]) (rest := []) ⟨hx, hb, hml, hown, hts⟩ (b_heldFor l G es A σ ad hF i hi_i (nI 0)) (vx_cwSW 4 hts gL_areAlerts_L_ask rfl rfl rfl (by decide +kernel) ⟨Nat.le_of_ble_eq_true rfl, Nat.le_of_ble_eq_true rfl⟩) ⟨qR.blind, qR.pre hC (hW0.same ho.2)⟩ rfl rfl hl.1 rfl (lv_room (Nat.le_of_ble_eq_true rfl)) dL_areAlerts_325 ⟨by show 0 + 1 + 1 + 1 + 1 ≤ 10; omega, by show 0 + 6 + 6 + 6 + 200 ≤ 300; omega⟩) hS (fun _ h => h.elim) (fun locs hS => ?_)
        refine lv_aload_n hx hb dL_areAlerts_328 rfl (lv_at hl 3 rfl) ?_
        refine lv_iload hx hb dL_areAlerts_329 (lv_at hl 9 rfl) ?_
        refine lv_bipush (v := nI 6) hx hb dL_areAlerts_331 (by decide) ?_
        refine lv_iadd hx hb dL_areAlerts_333 ?_
        refine q_ti (nI_add (7 * i) 6) ?_
        refine r_iald hx hb hC.1 hat_a 1 rfl (i := ((7 * i) + 6)) (by omega) (by decide) (v := nI (σ 130 i)) f6 dL_areAlerts_334 ?_
        refine q_gt (tgt := 378) hx hb (q31 (hB _ _)) (q31 (hB _ _)) dL_areAlerts_335 (by decide) (fun gq35 => (by omega)) (fun gq35 => ?_)
        refine lv_iload hx hb dL_areAlerts_338 (lv_at hl 10 rfl) ?_
        refine lv_aload_n hx hb dL_areAlerts_340 rfl (lv_at hl 3 rfl) ?_
        refine lv_iload hx hb dL_areAlerts_341 (lv_at hl 9 rfl) ?_
        refine lv_iconst (v := nI 4) hx hb dL_areAlerts_343 (by decide) ?_
        refine lv_iadd hx hb dL_areAlerts_344 ?_
        refine q_ti (nI_add (7 * i) 4) ?_
        refine r_iald hx hb hC.1 hat_a 1 rfl (i := ((7 * i) + 4)) (by omega) (by decide) (v := nI (σ 128 i)) f4 dL_areAlerts_345 ?_
        refine q_lt (tgt := 356) hx hb (by omega) (q31 (hB _ _)) dL_areAlerts_346 (by decide) (fun c7 => ?_) (fun c7 => ?_)
        · skip
          have h102 : ¬ σ 131 i = 102 := fun y9 => by have := hlk.mp y9; omega
          refine lv_iload hx hb dL_areAlerts_356 (lv_at hl 10 rfl) ?_
          refine lv_aload_n hx hb dL_areAlerts_358 rfl (lv_at hl 3 rfl) ?_
          refine lv_iload hx hb dL_areAlerts_359 (lv_at hl 9 rfl) ?_
          refine lv_iconst (v := nI 4) hx hb dL_areAlerts_361 (by decide) ?_
          refine lv_iadd hx hb dL_areAlerts_362 ?_
          refine q_ti (nI_add (7 * i) 4) ?_
          refine r_iald hx hb hC.1 hat_a 1 rfl (i := ((7 * i) + 4)) (by omega) (by decide) (v := nI (σ 128 i)) f4 dL_areAlerts_363 ?_
          refine q_ge (tgt := 374) hx hb (by omega) (q31 (hB _ _)) dL_areAlerts_364 (by decide) (fun gq36 => (by omega)) (fun gq36 => ?_)
          refine lv_iload hx hb dL_areAlerts_367 (lv_at hl 0 rfl) ?_
          refine lv_bipush (v := nI 102) hx hb dL_areAlerts_369 (by decide) ?_
          refine q_eq (tgt := 378) hx hb (q31 (hB _ _)) (by decide) dL_areAlerts_371 (by decide) (fun c8 => absurd c8 h102) (fun c8 => ?_)
          refine lv_iconst (v := nI 1) hx hb dL_areAlerts_374 (by decide) ?_
          refine lv_goto (tgt := 379) hx hb dL_areAlerts_375 (by decide) ?_
          refine lv_istore (lv' := [(5, .int (nI 1)), (10, .int (nI (σ 131 i))), (0, .ref (ad 0 0)), (1, .ref (zm)), (2, .ref (za)), (3, .int (nI (σ 0 0))), (4, .int (nI (σ 0 2))), (6, .ref (H3.size)), (7, .int (nI i)), (9, .int (nI (7 * i))), (8, .int (nI nn))]) hx hb dL_areAlerts_379 hl (by decide) rfl (fun ls hl => ?_)
          refine lv_iinc (v := nI (i + 1)) (lv' := [(7, .int (nI (i + 1))), (5, .int (nI 1)), (10, .int (nI (σ 131 i))), (0, .ref (ad 0 0)), (1, .ref (zm)), (2, .ref (za)), (3, .int (nI (σ 0 0))), (4, .int (nI (σ 0 2))), (6, .ref (H3.size)), (9, .int (nI (7 * i))), (8, .int (nI nn))]) hx hb dL_areAlerts_381 hl (k := 8) rfl (nI_1 i) (by decide) rfl (fun ls hl => ?_)
          refine lv_goto (tgt := 63) hx hb dL_areAlerts_384 (by decide) ?_
          exact ih_i _ locs ls ⟨ho, hS, gw2, (fun l9 h9 => (e_gw2.1 l9 h9).trans (by rw [qsum])), hat_m, hat_a, hat_gd, lv_sub hl [3, 4, 5, 6, 7, 1, 8, 0] rfl⟩
        · skip
          have h102 : σ 131 i = 102 := hlk.mpr (by omega)
          refine lv_iload hx hb dL_areAlerts_349 (lv_at hl 0 rfl) ?_
          refine lv_bipush (v := nI 102) hx hb dL_areAlerts_351 (by decide) ?_
          refine q_ne (tgt := 378) hx hb (q31 (hB _ _)) (by decide) dL_areAlerts_353 (by decide) (fun gq37 => (by omega)) (fun gq37 => ?_)
          refine lv_iload hx hb dL_areAlerts_356 (lv_at hl 10 rfl) ?_
          refine lv_aload_n hx hb dL_areAlerts_358 rfl (lv_at hl 3 rfl) ?_
          refine lv_iload hx hb dL_areAlerts_359 (lv_at hl 9 rfl) ?_
          refine lv_iconst (v := nI 4) hx hb dL_areAlerts_361 (by decide) ?_
          refine lv_iadd hx hb dL_areAlerts_362 ?_
          refine q_ti (nI_add (7 * i) 4) ?_
          refine r_iald hx hb hC.1 hat_a 1 rfl (i := ((7 * i) + 4)) (by omega) (by decide) (v := nI (σ 128 i)) f4 dL_areAlerts_363 ?_
          refine q_ge (tgt := 374) hx hb (by omega) (q31 (hB _ _)) dL_areAlerts_364 (by decide) (fun gq38 => ?_) (fun gq38 => (by omega))
          refine lv_iconst (v := nI 1) hx hb dL_areAlerts_374 (by decide) ?_
          refine lv_goto (tgt := 379) hx hb dL_areAlerts_375 (by decide) ?_
          refine lv_istore (lv' := [(5, .int (nI 1)), (10, .int (nI (σ 131 i))), (0, .ref (ad 0 0)), (1, .ref (zm)), (2, .ref (za)), (3, .int (nI (σ 0 0))), (4, .int (nI (σ 0 2))), (6, .ref (H3.size)), (7, .int (nI i)), (9, .int (nI (7 * i))), (8, .int (nI nn))]) hx hb dL_areAlerts_379 hl (by decide) rfl (fun ls hl => ?_)
          refine lv_iinc (v := nI (i + 1)) (lv' := [(7, .int (nI (i + 1))), (5, .int (nI 1)), (10, .int (nI (σ 131 i))), (0, .ref (ad 0 0)), (1, .ref (zm)), (2, .ref (za)), (3, .int (nI (σ 0 0))), (4, .int (nI (σ 0 2))), (6, .ref (H3.size)), (9, .int (nI (7 * i))), (8, .int (nI nn))]) hx hb dL_areAlerts_381 hl (k := 8) rfl (nI_1 i) (by decide) rfl (fun ls hl => ?_)
          refine lv_goto (tgt := 63) hx hb dL_areAlerts_384 (by decide) ?_
          exact ih_i _ locs ls ⟨ho, hS, gw2, (fun l9 h9 => (e_gw2.1 l9 h9).trans (by rw [qsum])), hat_m, hat_a, hat_gd, lv_sub hl [3, 4, 5, 6, 7, 1, 8, 0] rfl⟩
      · skip
        have h133 := a2 c3
        refine lv_iconst (v := nI 1) hx hb dL_areAlerts_294 (by decide) ?_
        refine lv_goto (tgt := 299) hx hb dL_areAlerts_295 (by decide) ?_
        refine lv_aload_n hx hb dL_areAlerts_299 rfl (lv_at hl 1 rfl) ?_
        refine lv_bipush (v := nI 12) hx hb dL_areAlerts_300 (by decide) ?_
        refine lv_iload hx hb dL_areAlerts_302 (lv_at hl 8 rfl) ?_
        refine lv_iconst (v := nI 0) hx hb dL_areAlerts_304 (by decide) ?_
        refine q_v (vx_runSW (As := [.ref (ad 0 0), .int (nI 12), .int (nI i), .int (nI 0)]) (rest := [.int (nI 1)]) ⟨hx, hb, hml, hown, hts⟩ (b_heldFor l G es A σ ad hF i hi_i (nI 0)) (vx_cwSW 4 hts gL_areAlerts_L_ask rfl rfl rfl (by decide +kernel) ⟨Nat.le_of_ble_eq_true rfl, Nat.le_of_ble_eq_true rfl⟩) ⟨qR.blind, qR.pre hC (hW0.same ho.2)⟩ rfl rfl hl.1 rfl (lv_room (Nat.le_of_ble_eq_true rfl)) dL_areAlerts_305 ⟨by show 0 + 1 + 1 + 1 + 1 ≤ 10; omega, by show 0 + 6 + 6 + 6 + 200 ≤ 300; omega⟩) hS (fun _ h => h.elim) (fun locs hS => ?_)
        refine q_le0 (tgt := 315) hx hb (q31 (hB _ _)) dL_areAlerts_308 (by decide) (fun gq39 => (by omega)) (fun gq39 => ?_)
        refine lv_iconst (v := nI 1) hx hb dL_areAlerts_311 (by decide) ?_
        refine lv_goto (tgt := 316) hx hb dL_areAlerts_312 (by decide) ?_
        refine q_ne (tgt := 378) hx hb (by decide) (by decide) dL_areAlerts_316 (by decide) (fun gq40 => (by omega)) (fun gq40 => ?_)
        refine lv_aload_n hx hb dL_areAlerts_319 rfl (lv_at hl 1 rfl) ?_
        refine lv_bipush (v := nI 12) hx hb dL_areAlerts_320 (by decide) ?_
        refine lv_iload hx hb dL_areAlerts_322 (lv_at hl 8 rfl) ?_
        refine lv_iconst (v := nI 0) hx hb dL_areAlerts_324 (by decide) ?_
        refine q_v (vx_runSW (As := [.ref (ad 0 0), .int (nI 12), .int (nI i), .int (nI 0)]) (rest := []) ⟨hx, hb, hml, hown, hts⟩ (b_heldFor l G es A σ ad hF i hi_i (nI 0)) (vx_cwSW 4 hts gL_areAlerts_L_ask rfl rfl rfl (by decide +kernel) ⟨Nat.le_of_ble_eq_true rfl, Nat.le_of_ble_eq_true rfl⟩) ⟨qR.blind, qR.pre hC (hW0.same ho.2)⟩ rfl rfl hl.1 rfl (lv_room (Nat.le_of_ble_eq_true rfl)) dL_areAlerts_325 ⟨by show 0 + 1 + 1 + 1 + 1 ≤ 10; omega, by show 0 + 6 + 6 + 6 + 200 ≤ 300; omega⟩) hS (fun _ h => h.elim) (fun locs hS => ?_)
        refine lv_aload_n hx hb dL_areAlerts_328 rfl (lv_at hl 3 rfl) ?_
        refine lv_iload hx hb dL_areAlerts_329 (lv_at hl 9 rfl) ?_
        refine lv_bipush (v := nI 6) hx hb dL_areAlerts_331 (by decide) ?_
        refine lv_iadd hx hb dL_areAlerts_333 ?_
        refine q_ti (nI_add (7 * i) 6) ?_
        refine r_iald hx hb hC.1 hat_a 1 rfl (i := ((7 * i) + 6)) (by omega) (by decide) (v := nI (σ 130 i)) f6 dL_areAlerts_334 ?_
        refine q_gt (tgt := 378) hx hb (q31 (hB _ _)) (q31 (hB _ _)) dL_areAlerts_335 (by decide) (fun gq41 => (by omega)) (fun gq41 => ?_)
        refine lv_iload hx hb dL_areAlerts_338 (lv_at hl 10 rfl) ?_
        refine lv_aload_n hx hb dL_areAlerts_340 rfl (lv_at hl 3 rfl) ?_
        refine lv_iload hx hb dL_areAlerts_341 (lv_at hl 9 rfl) ?_
        refine lv_iconst (v := nI 4) hx hb dL_areAlerts_343 (by decide) ?_
        refine lv_iadd hx hb dL_areAlerts_344 ?_
        refine q_ti (nI_add (7 * i) 4) ?_
        refine r_iald hx hb hC.1 hat_a 1 rfl (i := ((7 * i) + 4)) (by omega) (by decide) (v := nI (σ 128 i)) f4 dL_areAlerts_345 ?_
        refine q_lt (tgt := 356) hx hb (by omega) (q31 (hB _ _)) dL_areAlerts_346 (by decide) (fun c7 => ?_) (fun c7 => ?_)
        · skip
          have h102 : ¬ σ 131 i = 102 := fun y9 => by have := hlk.mp y9; omega
          refine lv_iload hx hb dL_areAlerts_356 (lv_at hl 10 rfl) ?_
          refine lv_aload_n hx hb dL_areAlerts_358 rfl (lv_at hl 3 rfl) ?_
          refine lv_iload hx hb dL_areAlerts_359 (lv_at hl 9 rfl) ?_
          refine lv_iconst (v := nI 4) hx hb dL_areAlerts_361 (by decide) ?_
          refine lv_iadd hx hb dL_areAlerts_362 ?_
          refine q_ti (nI_add (7 * i) 4) ?_
          refine r_iald hx hb hC.1 hat_a 1 rfl (i := ((7 * i) + 4)) (by omega) (by decide) (v := nI (σ 128 i)) f4 dL_areAlerts_363 ?_
          refine q_ge (tgt := 374) hx hb (by omega) (q31 (hB _ _)) dL_areAlerts_364 (by decide) (fun gq42 => (by omega)) (fun gq42 => ?_)
          refine lv_iload hx hb dL_areAlerts_367 (lv_at hl 0 rfl) ?_
          refine lv_bipush (v := nI 102) hx hb dL_areAlerts_369 (by decide) ?_
          refine q_eq (tgt := 378) hx hb (q31 (hB _ _)) (by decide) dL_areAlerts_371 (by decide) (fun c8 => absurd c8 h102) (fun c8 => ?_)
          refine lv_iconst (v := nI 1) hx hb dL_areAlerts_374 (by decide) ?_
          refine lv_goto (tgt := 379) hx hb dL_areAlerts_375 (by decide) ?_
          refine lv_istore (lv' := [(5, .int (nI 1)), (10, .int (nI (σ 131 i))), (0, .ref (ad 0 0)), (1, .ref (zm)), (2, .ref (za)), (3, .int (nI (σ 0 0))), (4, .int (nI (σ 0 2))), (6, .ref (H3.size)), (7, .int (nI i)), (9, .int (nI (7 * i))), (8, .int (nI nn))]) hx hb dL_areAlerts_379 hl (by decide) rfl (fun ls hl => ?_)
          refine lv_iinc (v := nI (i + 1)) (lv' := [(7, .int (nI (i + 1))), (5, .int (nI 1)), (10, .int (nI (σ 131 i))), (0, .ref (ad 0 0)), (1, .ref (zm)), (2, .ref (za)), (3, .int (nI (σ 0 0))), (4, .int (nI (σ 0 2))), (6, .ref (H3.size)), (9, .int (nI (7 * i))), (8, .int (nI nn))]) hx hb dL_areAlerts_381 hl (k := 8) rfl (nI_1 i) (by decide) rfl (fun ls hl => ?_)
          refine lv_goto (tgt := 63) hx hb dL_areAlerts_384 (by decide) ?_
          exact ih_i _ locs ls ⟨ho, hS, gw2, (fun l9 h9 => (e_gw2.1 l9 h9).trans (by rw [qsum])), hat_m, hat_a, hat_gd, lv_sub hl [3, 4, 5, 6, 7, 1, 8, 0] rfl⟩
        · skip
          have h102 : σ 131 i = 102 := hlk.mpr (by omega)
          refine lv_iload hx hb dL_areAlerts_349 (lv_at hl 0 rfl) ?_
          refine lv_bipush (v := nI 102) hx hb dL_areAlerts_351 (by decide) ?_
          refine q_ne (tgt := 378) hx hb (q31 (hB _ _)) (by decide) dL_areAlerts_353 (by decide) (fun gq43 => (by omega)) (fun gq43 => ?_)
          refine lv_iload hx hb dL_areAlerts_356 (lv_at hl 10 rfl) ?_
          refine lv_aload_n hx hb dL_areAlerts_358 rfl (lv_at hl 3 rfl) ?_
          refine lv_iload hx hb dL_areAlerts_359 (lv_at hl 9 rfl) ?_
          refine lv_iconst (v := nI 4) hx hb dL_areAlerts_361 (by decide) ?_
          refine lv_iadd hx hb dL_areAlerts_362 ?_
          refine q_ti (nI_add (7 * i) 4) ?_
          refine r_iald hx hb hC.1 hat_a 1 rfl (i := ((7 * i) + 4)) (by omega) (by decide) (v := nI (σ 128 i)) f4 dL_areAlerts_363 ?_
          refine q_ge (tgt := 374) hx hb (by omega) (q31 (hB _ _)) dL_areAlerts_364 (by decide) (fun gq44 => ?_) (fun gq44 => (by omega))
          refine lv_iconst (v := nI 1) hx hb dL_areAlerts_374 (by decide) ?_
          refine lv_goto (tgt := 379) hx hb dL_areAlerts_375 (by decide) ?_
          refine lv_istore (lv' := [(5, .int (nI 1)), (10, .int (nI (σ 131 i))), (0, .ref (ad 0 0)), (1, .ref (zm)), (2, .ref (za)), (3, .int (nI (σ 0 0))), (4, .int (nI (σ 0 2))), (6, .ref (H3.size)), (7, .int (nI i)), (9, .int (nI (7 * i))), (8, .int (nI nn))]) hx hb dL_areAlerts_379 hl (by decide) rfl (fun ls hl => ?_)
          refine lv_iinc (v := nI (i + 1)) (lv' := [(7, .int (nI (i + 1))), (5, .int (nI 1)), (10, .int (nI (σ 131 i))), (0, .ref (ad 0 0)), (1, .ref (zm)), (2, .ref (za)), (3, .int (nI (σ 0 0))), (4, .int (nI (σ 0 2))), (6, .ref (H3.size)), (9, .int (nI (7 * i))), (8, .int (nI nn))]) hx hb dL_areAlerts_381 hl (k := 8) rfl (nI_1 i) (by decide) rfl (fun ls hl => ?_)
          refine lv_goto (tgt := 63) hx hb dL_areAlerts_384 (by decide) ?_
          exact ih_i _ locs ls ⟨ho, hS, gw2, (fun l9 h9 => (e_gw2.1 l9 h9).trans (by rw [qsum])), hat_m, hat_a, hat_gd, lv_sub hl [3, 4, 5, 6, 7, 1, 8, 0] rfl⟩
    · rintro z H18 locs ls hi_z ⟨ho, hS, nn, e_nn, gw2, e_gw2, hat_m, hat_a, hat_gd, hl⟩ ih_z
      refine lv_iload hx hb dL_areAlerts_88 (lv_at hl 10 rfl) ?_
      refine lv_iload_n hx hb dL_areAlerts_90 rfl (lv_at hl 3 rfl) ?_
      refine q_ge (tgt := 248) hx hb (by omega) (q31 (hB _ _)) dL_areAlerts_91 (by decide) (fun gq45 => (by omega)) (fun gq45 => ?_)
      have hcm := hF.came hi_z
      refine q_join (A0 := A) (H0 := s.heap) (fun v9 => v9 = qB (qcn σ i z)) 202 ls [] ?_ ?_
      · rintro v9 locs rfl hS
        by_cases hq : qcn σ i z
        · skip
          refine q_ti (y := nI 1) (by rw [qB_t hq]) ?_
          refine lv_istore (lv' := [(11, .int (nI 1)), (0, .ref (ad 0 0)), (1, .ref (zm)), (2, .ref (za)), (3, .int (nI (σ 0 0))), (4, .int (nI (σ 0 2))), (5, .int (nI 1)), (6, .ref (H3.size)), (7, .int (nI i)), (9, .int (nI (7 * i))), (8, .int (nI nn)), (10, .int (nI z))]) hx hb dL_areAlerts_202 hl (by decide) rfl (fun ls hl => ?_)
          refine lv_iload hx hb dL_areAlerts_204 (lv_at hl 10 rfl) ?_
          refine lv_iload hx hb dL_areAlerts_206 (lv_at hl 0 rfl) ?_
          refine q_eq0 (tgt := 215) hx hb (by decide) dL_areAlerts_208 (by decide) (fun gq46 => (by omega)) (fun gq46 => ?_)
          refine lv_iconst (v := nI 1) hx hb dL_areAlerts_211 (by decide) ?_
          refine lv_goto (tgt := 216) hx hb dL_areAlerts_212 (by decide) ?_
          refine lv_iadd hx hb dL_areAlerts_216 ?_
          refine q_ti (nI_add nn 1) ?_
          refine lv_istore (lv' := [(8, .int (nI (nn + 1))), (11, .int (nI 1)), (0, .ref (ad 0 0)), (1, .ref (zm)), (2, .ref (za)), (3, .int (nI (σ 0 0))), (4, .int (nI (σ 0 2))), (5, .int (nI 1)), (6, .ref (H3.size)), (7, .int (nI i)), (9, .int (nI (7 * i))), (10, .int (nI z))]) hx hb dL_areAlerts_217 hl (by decide) rfl (fun ls hl => ?_)
          refine lv_aload hx hb dL_areAlerts_219 (lv_at hl 8 rfl) ?_
          refine lv_iload hx hb dL_areAlerts_221 (lv_at hl 11 rfl) ?_
          refine lv_aload hx hb dL_areAlerts_223 (lv_at hl 8 rfl) ?_
          refine lv_iload hx hb dL_areAlerts_225 (lv_at hl 11 rfl) ?_
          refine r_zald hx hb hC.1 hat_gd 3 rfl (i := z) (by omega) (by decide) (v := nI (qB (0 < (fun l8 => qsum (fun a9 => qB (qcn σ a9 l8)) i) z))) (e_gw2.2 z (Nat.le_refl _) hi_z) dL_areAlerts_227 ?_
          refine q_ne0 (tgt := 236) hx hb q_31B dL_areAlerts_228 (by decide) (fun c9 => ?_) (fun c9 => ?_)
          · skip
            refine lv_iconst (v := nI 1) hx hb dL_areAlerts_236 (by decide) ?_
            refine lv_goto (tgt := 241) hx hb dL_areAlerts_237 (by decide) ?_
            refine q_zast hx hb hC.1 hat_gd (hA _ hx_gd) hS 3 rfl (vp_in_nI (n := z) (by omega) (by omega)) dL_areAlerts_241 (fun H19 locs hat9 hsz hoq hS => ?_)
            have hat_m := hat_m.kept (hoq _ (by omega))
            have hat_a := hat_a.kept (hoq _ (by omega))
            have hat_gd : va_at G.1 vwCl (H3.size, .inl (G.2 3, 200, .inl (upd gw2 z (nI 1)))) H19 := by rw [show (upd gw2 z (nI 1)) = _ from (l_idz1 (by omega))]; exact hat9
            have ho := ho.put hsz hoq hx_gd
            refine lv_iinc (v := nI (z + 1)) (lv' := [(10, .int (nI (z + 1))), (8, .int (nI (nn + 1))), (11, .int (nI 1)), (0, .ref (ad 0 0)), (1, .ref (zm)), (2, .ref (za)), (3, .int (nI (σ 0 0))), (4, .int (nI (σ 0 2))), (5, .int (nI 1)), (6, .ref (H3.size)), (7, .int (nI i)), (9, .int (nI (7 * i)))]) hx hb dL_areAlerts_242 hl (k := 11) rfl (nI_1 z) (by decide) rfl (fun ls hl => ?_)
            refine lv_goto (tgt := 88) hx hb dL_areAlerts_245 (by decide) ?_
            exact ih_z _ locs ls ⟨ho, hS, (nn + 1), (by rw [e_nn, qsum, qB_t hq]), (upd gw2 z (nI 1)), (l_fl (X := (fun l8 => qsum (fun a9 => qB (qcn σ a9 l8)) i)) (Y := (fun l8 => qB (qcn σ i l8))) e_gw2 (qB_t (Nat.lt_of_lt_of_le (r_un c9) (Nat.le_add_right _ _))).symm), hat_m, hat_a, hat_gd, lv_sub hl [3, 4, 5, 6, 7, 8, 9, 10, 11, 1, 0] rfl⟩
          · skip
            refine lv_iload hx hb dL_areAlerts_231 (lv_at hl 1 rfl) ?_
            refine q_eq0 (tgt := 240) hx hb (by decide) dL_areAlerts_233 (by decide) (fun gq47 => (by omega)) (fun gq47 => ?_)
            refine lv_iconst (v := nI 1) hx hb dL_areAlerts_236 (by decide) ?_
            refine lv_goto (tgt := 241) hx hb dL_areAlerts_237 (by decide) ?_
            refine q_zast hx hb hC.1 hat_gd (hA _ hx_gd) hS 3 rfl (vp_in_nI (n := z) (by omega) (by omega)) dL_areAlerts_241 (fun H20 locs hat9 hsz hoq hS => ?_)
            have hat_m := hat_m.kept (hoq _ (by omega))
            have hat_a := hat_a.kept (hoq _ (by omega))
            have hat_gd : va_at G.1 vwCl (H3.size, .inl (G.2 3, 200, .inl (upd gw2 z (nI 1)))) H20 := by rw [show (upd gw2 z (nI 1)) = _ from (l_idz1 (by omega))]; exact hat9
            have ho := ho.put hsz hoq hx_gd
            refine lv_iinc (v := nI (z + 1)) (lv' := [(10, .int (nI (z + 1))), (8, .int (nI (nn + 1))), (11, .int (nI 1)), (0, .ref (ad 0 0)), (1, .ref (zm)), (2, .ref (za)), (3, .int (nI (σ 0 0))), (4, .int (nI (σ 0 2))), (5, .int (nI 1)), (6, .ref (H3.size)), (7, .int (nI i)), (9, .int (nI (7 * i)))]) hx hb dL_areAlerts_242 hl (k := 11) rfl (nI_1 z) (by decide) rfl (fun ls hl => ?_)
            refine lv_goto (tgt := 88) hx hb dL_areAlerts_245 (by decide) ?_
            exact ih_z _ locs ls ⟨ho, hS, (nn + 1), (by rw [e_nn, qsum, qB_t hq]), (upd gw2 z (nI 1)), (l_fl (X := (fun l8 => qsum (fun a9 => qB (qcn σ a9 l8)) i)) (Y := (fun l8 => qB (qcn σ i l8))) e_gw2 (qB_t (by show 0 < _ + qB (qcn σ i z); rw [qB_t hq]; omega)).symm), hat_m, hat_a, hat_gd, lv_sub hl [3, 4, 5, 6, 7, 8, 9, 10, 11, 1, 0] rfl⟩
        · skip
          refine q_ti (y := nI 0) (by rw [qB_f hq]) ?_
          refine lv_istore (lv' := [(11, .int (nI 0)), (0, .ref (ad 0 0)), (1, .ref (zm)), (2, .ref (za)), (3, .int (nI (σ 0 0))), (4, .int (nI (σ 0 2))), (5, .int (nI 1)), (6, .ref (H3.size)), (7, .int (nI i)), (9, .int (nI (7 * i))), (8, .int (nI nn)), (10, .int (nI z))]) hx hb dL_areAlerts_202 hl (by decide) rfl (fun ls hl => ?_)
          refine lv_iload hx hb dL_areAlerts_204 (lv_at hl 10 rfl) ?_
          refine lv_iload hx hb dL_areAlerts_206 (lv_at hl 0 rfl) ?_
          refine q_eq0 (tgt := 215) hx hb (by decide) dL_areAlerts_208 (by decide) (fun gq48 => ?_) (fun gq48 => (by omega))
          refine lv_iconst (v := nI 0) hx hb dL_areAlerts_215 (by decide) ?_
          refine lv_iadd hx hb dL_areAlerts_216 ?_
          refine q_ti (nI_add nn 0) ?_
          refine lv_istore (lv' := [(8, .int (nI (nn + 0))), (11, .int (nI 0)), (0, .ref (ad 0 0)), (1, .ref (zm)), (2, .ref (za)), (3, .int (nI (σ 0 0))), (4, .int (nI (σ 0 2))), (5, .int (nI 1)), (6, .ref (H3.size)), (7, .int (nI i)), (9, .int (nI (7 * i))), (10, .int (nI z))]) hx hb dL_areAlerts_217 hl (by decide) rfl (fun ls hl => ?_)
          refine lv_aload hx hb dL_areAlerts_219 (lv_at hl 8 rfl) ?_
          refine lv_iload hx hb dL_areAlerts_221 (lv_at hl 11 rfl) ?_
          refine lv_aload hx hb dL_areAlerts_223 (lv_at hl 8 rfl) ?_
          refine lv_iload hx hb dL_areAlerts_225 (lv_at hl 11 rfl) ?_
          refine r_zald hx hb hC.1 hat_gd 3 rfl (i := z) (by omega) (by decide) (v := nI (qB (0 < (fun l8 => qsum (fun a9 => qB (qcn σ a9 l8)) i) z))) (e_gw2.2 z (Nat.le_refl _) hi_z) dL_areAlerts_227 ?_
          refine q_ne0 (tgt := 236) hx hb q_31B dL_areAlerts_228 (by decide) (fun c9 => ?_) (fun c9 => ?_)
          · skip
            refine lv_iconst (v := nI 1) hx hb dL_areAlerts_236 (by decide) ?_
            refine lv_goto (tgt := 241) hx hb dL_areAlerts_237 (by decide) ?_
            refine q_zast hx hb hC.1 hat_gd (hA _ hx_gd) hS 3 rfl (vp_in_nI (n := z) (by omega) (by omega)) dL_areAlerts_241 (fun H21 locs hat9 hsz hoq hS => ?_)
            have hat_m := hat_m.kept (hoq _ (by omega))
            have hat_a := hat_a.kept (hoq _ (by omega))
            have hat_gd : va_at G.1 vwCl (H3.size, .inl (G.2 3, 200, .inl (upd gw2 z (nI 1)))) H21 := by rw [show (upd gw2 z (nI 1)) = _ from (l_idz1 (by omega))]; exact hat9
            have ho := ho.put hsz hoq hx_gd
            refine lv_iinc (v := nI (z + 1)) (lv' := [(10, .int (nI (z + 1))), (8, .int (nI (nn + 0))), (11, .int (nI 0)), (0, .ref (ad 0 0)), (1, .ref (zm)), (2, .ref (za)), (3, .int (nI (σ 0 0))), (4, .int (nI (σ 0 2))), (5, .int (nI 1)), (6, .ref (H3.size)), (7, .int (nI i)), (9, .int (nI (7 * i)))]) hx hb dL_areAlerts_242 hl (k := 11) rfl (nI_1 z) (by decide) rfl (fun ls hl => ?_)
            refine lv_goto (tgt := 88) hx hb dL_areAlerts_245 (by decide) ?_
            exact ih_z _ locs ls ⟨ho, hS, (nn + 0), (by rw [e_nn, qsum, qB_f hq]), (upd gw2 z (nI 1)), (l_fl (X := (fun l8 => qsum (fun a9 => qB (qcn σ a9 l8)) i)) (Y := (fun l8 => qB (qcn σ i l8))) e_gw2 (qB_t (Nat.lt_of_lt_of_le (r_un c9) (Nat.le_add_right _ _))).symm), hat_m, hat_a, hat_gd, lv_sub hl [3, 4, 5, 6, 7, 8, 9, 10, 11, 1, 0] rfl⟩
          · skip
            refine lv_iload hx hb dL_areAlerts_231 (lv_at hl 1 rfl) ?_
            refine q_eq0 (tgt := 240) hx hb (by decide) dL_areAlerts_233 (by decide) (fun gq49 => ?_) (fun gq49 => (by omega))
            refine lv_iconst (v := nI 0) hx hb dL_areAlerts_240 (by decide) ?_
            refine q_zast hx hb hC.1 hat_gd (hA _ hx_gd) hS 3 rfl (vp_in_nI (n := z) (by omega) (by omega)) dL_areAlerts_241 (fun H22 locs hat9 hsz hoq hS => ?_)
            have hat_m := hat_m.kept (hoq _ (by omega))
            have hat_a := hat_a.kept (hoq _ (by omega))
            have hat_gd : va_at G.1 vwCl (H3.size, .inl (G.2 3, 200, .inl (upd gw2 z (nI 0)))) H22 := by rw [show (upd gw2 z (nI 0)) = _ from (l_idz0 (by omega))]; exact hat9
            have ho := ho.put hsz hoq hx_gd
            refine lv_iinc (v := nI (z + 1)) (lv' := [(10, .int (nI (z + 1))), (8, .int (nI (nn + 0))), (11, .int (nI 0)), (0, .ref (ad 0 0)), (1, .ref (zm)), (2, .ref (za)), (3, .int (nI (σ 0 0))), (4, .int (nI (σ 0 2))), (5, .int (nI 1)), (6, .ref (H3.size)), (7, .int (nI i)), (9, .int (nI (7 * i)))]) hx hb dL_areAlerts_242 hl (k := 11) rfl (nI_1 z) (by decide) rfl (fun ls hl => ?_)
            refine lv_goto (tgt := 88) hx hb dL_areAlerts_245 (by decide) ?_
            exact ih_z _ locs ls ⟨ho, hS, (nn + 0), (by rw [e_nn, qsum, qB_f hq]), (upd gw2 z (nI 0)), (l_fl (X := (fun l8 => qsum (fun a9 => qB (qcn σ a9 l8)) i)) (Y := (fun l8 => qB (qcn σ i l8))) e_gw2 (qB_f (by show ¬ 0 < qsum (fun a9 => qB (qcn σ a9 z)) i + qB (qcn σ i z); rw [qB_f hq]; exact fun y9 => l_qB0 c9 y9)).symm), hat_m, hat_a, hat_gd, lv_sub hl [3, 4, 5, 6, 7, 8, 9, 10, 11, 1, 0] rfl⟩
      · intro kj
        refine lv_aload_n hx hb dL_areAlerts_94 rfl (lv_at hl 0 rfl) ?_
        refine lv_iconst (v := nI 0) hx hb dL_areAlerts_95 (by decide) ?_
        refine lv_iload hx hb dL_areAlerts_96 (lv_at hl 10 rfl) ?_
        refine lv_iconst (v := nI 0) hx hb dL_areAlerts_98 (by decide) ?_
        refine q_v (vx_runSW (As := [.ref (ad 0 0), .int (nI 0), .int (nI z), .int (nI 0)]) (rest := []) ⟨hx, hb, hml, hown, hts⟩ (b_stateOf l G es A σ ad hF z hi_z (nI 0)) (vx_cwSW 4 hts gL_areAlerts_L_ask rfl rfl rfl (by decide +kernel) ⟨Nat.le_of_ble_eq_true rfl, Nat.le_of_ble_eq_true rfl⟩) ⟨qR.blind, qR.pre hC (hW0.same ho.2)⟩ rfl rfl hl.1 rfl (lv_room (Nat.le_of_ble_eq_true rfl)) dL_areAlerts_99 ⟨by show 0 + 1 + 1 + 1 + 1 ≤ 10; omega, by show 0 + 6 + 6 + 6 + 200 ≤ 300; omega⟩) hS (fun _ h => h.elim) (fun locs hS => ?_)
        refine lv_bipush (v := nI 100) hx hb dL_areAlerts_102 (by decide) ?_
        refine q_eq (tgt := 201) hx hb (q31 (hB _ _)) (by decide) dL_areAlerts_104 (by decide) (fun c1 => ?_) (fun c1 => ?_)
        · skip
          refine lv_iconst (v := nI 0) hx hb dL_areAlerts_201 (by decide) ?_
          exact kj 0 locs (qB_f (fun y9 => y9.1 c1)).symm hS
        · skip
          refine lv_aload_n hx hb dL_areAlerts_107 rfl (lv_at hl 1 rfl) ?_
          refine lv_bipush (v := nI 7) hx hb dL_areAlerts_108 (by decide) ?_
          refine lv_iload hx hb dL_areAlerts_110 (lv_at hl 10 rfl) ?_
          refine lv_imul hx hb dL_areAlerts_112 ?_
          refine q_ti (pk_mul 7 z) ?_
          refine r_iald hx hb hC.1 hat_m 1 rfl (i := (7 * z)) (by omega) (by decide) (v := nI (σ 64 z)) (hM z hi_z).1 dL_areAlerts_113 ?_
          refine lv_aload_n hx hb dL_areAlerts_114 rfl (lv_at hl 2 rfl) ?_
          refine lv_iload hx hb dL_areAlerts_115 (lv_at hl 8 rfl) ?_
          refine r_iald hx hb hC.1 hat_a 1 rfl (i := (7 * i)) (by omega) (by decide) (v := nI (σ 144 i)) f0 dL_areAlerts_117 ?_
          refine q_ne (tgt := 201) hx hb (q31 (hB _ _)) (q31 (hB _ _)) dL_areAlerts_118 (by decide) (fun c2 => ?_) (fun c2 => ?_)
          · skip
            refine lv_iconst (v := nI 0) hx hb dL_areAlerts_201 (by decide) ?_
            exact kj 0 locs (qB_f (fun y9 => c2 y9.2.2.1)).symm hS
          · skip
            refine lv_aload_n hx hb dL_areAlerts_121 rfl (lv_at hl 1 rfl) ?_
            refine lv_bipush (v := nI 7) hx hb dL_areAlerts_122 (by decide) ?_
            refine lv_iload hx hb dL_areAlerts_124 (lv_at hl 10 rfl) ?_
            refine lv_imul hx hb dL_areAlerts_126 ?_
            refine q_ti (pk_mul 7 z) ?_
            refine lv_iconst (v := nI 1) hx hb dL_areAlerts_127 (by decide) ?_
            refine lv_iadd hx hb dL_areAlerts_128 ?_
            refine q_ti (nI_add (7 * z) 1) ?_
            refine r_iald hx hb hC.1 hat_m 1 rfl (i := ((7 * z) + 1)) (by omega) (by decide) (v := nI (σ 65 z)) (hM z hi_z).2.2.1 dL_areAlerts_129 ?_
            refine lv_aload_n hx hb dL_areAlerts_130 rfl (lv_at hl 2 rfl) ?_
            refine lv_iload hx hb dL_areAlerts_131 (lv_at hl 8 rfl) ?_
            refine lv_iconst (v := nI 1) hx hb dL_areAlerts_133 (by decide) ?_
            refine lv_iadd hx hb dL_areAlerts_134 ?_
            refine q_ti (nI_add (7 * i) 1) ?_
            refine r_iald hx hb hC.1 hat_a 1 rfl (i := ((7 * i) + 1)) (by omega) (by decide) (v := nI (σ 145 i)) f1 dL_areAlerts_135 ?_
            refine q_lt (tgt := 201) hx hb (q31 (hB _ _)) (q31 (hB _ _)) dL_areAlerts_136 (by decide) (fun c3 => ?_) (fun c3 => ?_)
            · skip
              refine lv_iconst (v := nI 0) hx hb dL_areAlerts_201 (by decide) ?_
              exact kj 0 locs (qB_f (fun y9 => by have := y9.2.2.2.1; omega)).symm hS
            · skip
              refine lv_aload_n hx hb dL_areAlerts_139 rfl (lv_at hl 1 rfl) ?_
              refine lv_bipush (v := nI 7) hx hb dL_areAlerts_140 (by decide) ?_
              refine lv_iload hx hb dL_areAlerts_142 (lv_at hl 10 rfl) ?_
              refine lv_imul hx hb dL_areAlerts_144 ?_
              refine q_ti (pk_mul 7 z) ?_
              refine lv_bipush (v := nI 6) hx hb dL_areAlerts_145 (by decide) ?_
              refine lv_iadd hx hb dL_areAlerts_147 ?_
              refine q_ti (nI_add (7 * z) 6) ?_
              refine r_iald hx hb hC.1 hat_m 1 rfl (i := ((7 * z) + 6)) (by omega) (by decide) (v := nI (σ 67 z)) (hM z hi_z).2.2.2.2 dL_areAlerts_148 ?_
              refine lv_aload_n hx hb dL_areAlerts_149 rfl (lv_at hl 2 rfl) ?_
              refine lv_iload hx hb dL_areAlerts_150 (lv_at hl 8 rfl) ?_
              refine lv_iconst (v := nI 5) hx hb dL_areAlerts_152 (by decide) ?_
              refine lv_iadd hx hb dL_areAlerts_153 ?_
              refine q_ti (nI_add (7 * i) 5) ?_
              refine r_iald hx hb hC.1 hat_a 1 rfl (i := ((7 * i) + 5)) (by omega) (by decide) (v := nI (σ 129 i)) f5 dL_areAlerts_154 ?_
              refine lv_iadd hx hb dL_areAlerts_155 ?_
              refine q_ti (nI_add (σ 67 z) (σ 129 i)) ?_
              refine lv_aload_n hx hb dL_areAlerts_156 rfl (lv_at hl 0 rfl) ?_
              refine q_v (va_runV (As := []) (rest := [.int (nI ((σ 67 z) + (σ 129 i)))]) ⟨hx, hb, hml, hown, hts⟩ (m_tick l G es A σ ad hF) (cwV 0 hts gL_areAlerts_X7_tick rfl rfl rfl (by decide +kernel) ⟨Nat.le_of_ble_eq_true rfl, Nat.le_of_ble_eq_true rfl⟩) ⟨qR.blind, qrecv hC ((hW0.same ho.2).to qLV0) rfl, qR.pre hC (hW0.same ho.2)⟩ rfl rfl hl.1 rfl (lv_room (Nat.le_of_ble_eq_true rfl)) dL_areAlerts_157 ⟨by show 0 + 1 + 1 + 1 + 1 ≤ 10; omega, by show 0 + 6 + 6 + 6 + 200 ≤ 300; omega⟩) hS (fun _ h => h.elim) (fun locs hS => ?_)
              have hb1 := hB 67 z
              have hb2 := hB 129 i
              refine q_le (tgt := 201) hx hb (by omega) (q31 (hB _ _)) dL_areAlerts_160 (by decide) (fun c4 => ?_) (fun c4 => ?_)
              · skip
                refine lv_iconst (v := nI 0) hx hb dL_areAlerts_201 (by decide) ?_
                exact kj 0 locs (qB_f (fun y9 => by have : σ 1 0 - σ 67 z < σ 129 i := y9.2.1; omega)).symm hS
              · skip
                refine lv_aload_n hx hb dL_areAlerts_163 rfl (lv_at hl 2 rfl) ?_
                refine lv_iload hx hb dL_areAlerts_164 (lv_at hl 8 rfl) ?_
                refine lv_iconst (v := nI 2) hx hb dL_areAlerts_166 (by decide) ?_
                refine lv_iadd hx hb dL_areAlerts_167 ?_
                refine q_ti (nI_add (7 * i) 2) ?_
                refine r_iald hx hb hC.1 hat_a 1 rfl (i := ((7 * i) + 2)) (by omega) (by decide) (v := nI (σ 146 i) - 1) f2 dL_areAlerts_168 ?_
                refine lv_if_lt (tgt := 197) hx hb dL_areAlerts_169 (by decide) (fun c5 => ?_) (fun c5 => ?_)
                · skip
                  refine lv_iconst (v := nI 1) hx hb dL_areAlerts_197 (by decide) ?_
                  refine lv_goto (tgt := 202) hx hb dL_areAlerts_198 (by decide) ?_
                  exact kj 1 locs (qB_t ⟨c1, (by show σ 1 0 - σ 67 z < σ 129 i; omega), c2, (by omega), Or.inl ((r_lt0 (hB _ _)).mp c5)⟩).symm hS
                · skip
                  have c5n : ¬ σ 146 i = 0 := fun y9 => c5 ((r_lt0 (hB _ _)).mpr y9)
                  refine lv_aload_n hx hb dL_areAlerts_172 rfl (lv_at hl 1 rfl) ?_
                  refine lv_bipush (v := nI 7) hx hb dL_areAlerts_173 (by decide) ?_
                  refine lv_iload hx hb dL_areAlerts_175 (lv_at hl 10 rfl) ?_
                  refine lv_imul hx hb dL_areAlerts_177 ?_
                  refine q_ti (pk_mul 7 z) ?_
                  refine lv_iconst (v := nI 2) hx hb dL_areAlerts_178 (by decide) ?_
                  refine lv_iadd hx hb dL_areAlerts_179 ?_
                  refine q_ti (nI_add (7 * z) 2) ?_
                  refine lv_aload_n hx hb dL_areAlerts_180 rfl (lv_at hl 2 rfl) ?_
                  refine lv_iload hx hb dL_areAlerts_181 (lv_at hl 8 rfl) ?_
                  refine lv_iconst (v := nI 2) hx hb dL_areAlerts_183 (by decide) ?_
                  refine lv_iadd hx hb dL_areAlerts_184 ?_
                  refine q_ti (nI_add (7 * i) 2) ?_
                  refine r_iald hx hb hC.1 hat_a 1 rfl (i := ((7 * i) + 2)) (by omega) (by decide) (v := nI (σ 146 i) - 1) f2 dL_areAlerts_185 ?_
                  refine q_ti (y := nI (σ 146 i - 1)) (l_w1 (by omega)) ?_
                  refine lv_iadd hx hb dL_areAlerts_186 ?_
                  refine q_ti (nI_add ((7 * z) + 2) (σ 146 i - 1)) ?_
                  refine r_iald hx hb hC.1 hat_m 1 rfl (i := (((7 * z) + 2) + (σ 146 i - 1))) (by omega) (by decide) (v := nI (σ (80 + (σ 146 i - 1)) z)) ((hM z hi_z).2.1 _ (by omega)) dL_areAlerts_187 ?_
                  refine lv_aload_n hx hb dL_areAlerts_188 rfl (lv_at hl 2 rfl) ?_
                  refine lv_iload hx hb dL_areAlerts_189 (lv_at hl 8 rfl) ?_
                  refine lv_iconst (v := nI 3) hx hb dL_areAlerts_191 (by decide) ?_
                  refine lv_iadd hx hb dL_areAlerts_192 ?_
                  refine q_ti (nI_add (7 * i) 3) ?_
                  refine r_iald hx hb hC.1 hat_a 1 rfl (i := ((7 * i) + 3)) (by omega) (by decide) (v := nI (σ 147 i)) f3 dL_areAlerts_193 ?_
                  refine q_ne (tgt := 201) hx hb (q31 (hB _ _)) (q31 (hB _ _)) dL_areAlerts_194 (by decide) (fun c6 => ?_) (fun c6 => ?_)
                  · skip
                    refine lv_iconst (v := nI 0) hx hb dL_areAlerts_201 (by decide) ?_
                    exact kj 0 locs (qB_f (fun y9 => y9.2.2.2.2.elim c5n c6)).symm hS
                  · skip
                    refine lv_iconst (v := nI 1) hx hb dL_areAlerts_197 (by decide) ?_
                    refine lv_goto (tgt := 202) hx hb dL_areAlerts_198 (by decide) ?_
                    exact kj 1 locs (qB_t ⟨c1, (by show σ 1 0 - σ 67 z < σ 129 i; omega), c2, (by omega), Or.inr c6⟩).symm hS
