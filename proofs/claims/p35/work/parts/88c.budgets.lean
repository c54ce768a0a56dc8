theorem l_q0 {f : Nat → Nat} {z : Nat} (h : qsum f (z + 1) = 0) : qsum f z = 0 := by rw [qsum] at h; omega
theorem l_q1 {f : Nat → Nat} {z : Nat} (h : qsum f z = 0) (h1 : f z = 0) : qsum f (z + 1) = 0 := by rw [qsum, h, h1]
theorem l_q2 {f : Nat → Nat} {z : Nat} (h : qsum f (z + 1) = 0) : f z = 0 := by rw [qsum] at h; omega
set_option maxHeartbeats 4000000 in
set_option maxRecDepth 100000 in
theorem k_areBudgets (l : Launch) (hst : l.stackTraces = false) (G : QG) (es : Nat) (A : Nat → Prop) (σ ad : QSt) (hv : zIv σ) (hj : jI σ) (zm zb : Nat) (mf bf : Nat → Int32) (hM : jM σ mf) (hL : ∀ k, k < 4 → bf k = nI (σ 48 k)) : Met l yL_areBudgets wsL_areBudgets ({ frames := 10, cells := 10, slots := 100, locals := 171 } : Room) (qLp G es A σ ad [(zm, .inl (G.2 1, 1400, .inl mf)), (zb, .inl (G.2 1, 4, .inl bf))] [.ref (ad 0 0), .ref (zm), .ref (zb), .int (nI (σ 0 0))]) (qAP (some (.int (nI 1)))) 10 100 A := by
  refine Met.ofW (cc := cL_areBudgets) (maxL := 14) (ret := (some .boolean)) (by decide) rfl ?_
  intro p e s m args below meth c s₁ B hml hv
  obtain ⟨rfl, hC, hW0, hZ, hA, hT, hN, hP9⟩ := hv
  have hx := B.exec
  have hb := B.bytes
  have hr := B.returns
  have hts := atoms_spec (ws := wsL_areBudgets) B.pre
  have hown : s.vm.findClass RL = some m.cls := findClass_of_methodNamed B.named
  have hlocks := B.notSynchronized
  have hF := hv.1.wf
  have hn := hF.n
  have hB := hF.1
  have hat_m := hP9 0 _ rfl
  have hat_b := hP9 1 _ rfl
  have hS : va_S A s.heap s.heap [] := va_S.rf
  have hl := lv_entry ([.ref (ad 0 0), .ref (zm), .ref (zb), .int (nI (σ 0 0))]) (n := 14) (Nat.le_of_ble_eq_true rfl)
  rw [lg_entry_eq]
  generalize (lg_sl ([.ref (ad 0 0), .ref (zm), .ref (zb), .int (nI (σ 0 0))]) ++ List.replicate (14 - (lg_sl ([.ref (ad 0 0), .ref (zm), .ref (zb), .int (nI (σ 0 0))])).length) Slot.unset).toArray = ls at hl ⊢
  have hl : lv_has ls 14 [(0, .ref (ad 0 0)), (1, .ref (zm)), (2, .ref (zb)), (3, .int (nI (σ 0 0)))] := hl
  have ho : qHo s.heap s.heap := qHo.rf
  refine lv_iconst (v := nI 4) hx hb dL_areBudgets_0 (by decide) ?_
  refine q_newa (atype := .int) (ty := .int) (cA0 := G.2 1) hx hb (hts (.arrayClass .int) (List.mem_of_getElem? (i := 1) (by decide +kernel))) rfl hC.1 1 rfl (fun C z => by cases z) hS (n := nI 4) (N' := 4) (4, .inl (fun _ => 0)) (fun cA => (vp_cell_i cA 4 _).trans (congrArg (arrV cA 4) (funext fun _ => rfl))) (nI_pos (by decide)) (nI_clamp (by decide)) (by show 4 * 4 ≤ 536870912; omega) (by show 0 + 1 ≤ 10; omega) (by show 0 + 4 ≤ 100; omega) dL_areBudgets_1 (fun H1 hat_kp hz_kp hk hS => ?_)
  have hl_kp_m : zm < s.heap.size := hat_m.lt
  have hat_m := hat_m.kept (hk _ hat_m.lt)
  have hl_kp_b : zb < s.heap.size := hat_b.lt
  have hat_b := hat_b.kept (hk _ hat_b.lt)
  have hx_kp : s.heap.size ≤ s.heap.size := ho.1
  have ho := ho.ext (Nat.le_of_lt (by omega : s.heap.size < H1.size)) hk
  refine lv_astore (lv' := [(4, .ref (s.heap.size)), (0, .ref (ad 0 0)), (1, .ref (zm)), (2, .ref (zb)), (3, .int (nI (σ 0 0)))]) hx hb dL_areBudgets_3 hl (by decide) rfl (fun ls hl => ?_)
  refine lv_iconst (v := nI 4) hx hb dL_areBudgets_5 (by decide) ?_
  refine q_newa (atype := .int) (ty := .int) (cA0 := G.2 1) hx hb (hts (.arrayClass .int) (List.mem_of_getElem? (i := 1) (by decide +kernel))) rfl hC.1 1 rfl (fun C z => by cases z) hS (n := nI 4) (N' := 4) (4, .inl (fun _ => 0)) (fun cA => (vp_cell_i cA 4 _).trans (congrArg (arrV cA 4) (funext fun _ => rfl))) (nI_pos (by decide)) (nI_clamp (by decide)) (by show 4 * 4 ≤ 536870912; omega) (by show 0 + 1 + 1 ≤ 10; omega) (by show 0 + 4 + 4 ≤ 100; omega) dL_areBudgets_6 (fun H2 hat_dr hz_dr hk hS => ?_)
  have hl_dr_m : zm < H1.size := hat_m.lt
  have hat_m := hat_m.kept (hk _ hat_m.lt)
  have hl_dr_b : zb < H1.size := hat_b.lt
  have hat_b := hat_b.kept (hk _ hat_b.lt)
  have hl_dr_kp : s.heap.size < H1.size := hat_kp.lt
  have hat_kp := hat_kp.kept (hk _ hat_kp.lt)
  have hx_dr : s.heap.size ≤ H1.size := ho.1
  have ho := ho.ext (Nat.le_of_lt (by omega : H1.size < H2.size)) hk
  refine lv_astore (lv' := [(5, .ref (H1.size)), (4, .ref (s.heap.size)), (0, .ref (ad 0 0)), (1, .ref (zm)), (2, .ref (zb)), (3, .int (nI (σ 0 0)))]) hx hb dL_areBudgets_8 hl (by decide) rfl (fun ls hl => ?_)
  refine lv_iconst (v := nI 4) hx hb dL_areBudgets_10 (by decide) ?_
  refine q_newa (atype := .boolean) (ty := .boolean) (cA0 := G.2 3) hx hb (hts (.arrayClass .boolean) (List.mem_of_getElem? (i := 2) (by decide +kernel))) rfl hC.1 3 rfl (fun C z => by cases z) hS (n := nI 4) (N' := 4) (4, .inl (fun _ => 0)) (fun cA => (vp_cell_i cA 4 _).trans (congrArg (arrV cA 4) (funext fun _ => rfl))) (nI_pos (by decide)) (nI_clamp (by decide)) (by show 4 * 1 ≤ 536870912; omega) (by show 0 + 1 + 1 + 1 ≤ 10; omega) (by show 0 + 4 + 4 + 4 ≤ 100; omega) dL_areBudgets_11 (fun H3 hat_al hz_al hk hS => ?_)
  have hl_al_m : zm < H2.size := hat_m.lt
  have hat_m := hat_m.kept (hk _ hat_m.lt)
  have hl_al_b : zb < H2.size := hat_b.lt
  have hat_b := hat_b.kept (hk _ hat_b.lt)
  have hl_al_kp : s.heap.size < H2.size := hat_kp.lt
  have hat_kp := hat_kp.kept (hk _ hat_kp.lt)
  have hl_al_dr : H1.size < H2.size := hat_dr.lt
  have hat_dr := hat_dr.kept (hk _ hat_dr.lt)
  have hx_al : s.heap.size ≤ H2.size := ho.1
  have ho := ho.ext (Nat.le_of_lt (by omega : H2.size < H3.size)) hk
  refine lv_dup hx hb dL_areBudgets_13 rfl ?_
  refine lv_iconst (v := nI 0) hx hb dL_areBudgets_14 (by decide) ?_
  refine lv_iconst (v := nI 1) hx hb dL_areBudgets_15 (by decide) ?_
  refine q_zast hx hb hC.1 hat_al (hA _ hx_al) hS 3 rfl (vp_in_nI (n := 0) (by omega) (by omega)) dL_areBudgets_16 (fun H4 locs hat9 hsz hoq hS => ?_)
  have hat_m := hat_m.kept (hoq _ (by omega))
  have hat_b := hat_b.kept (hoq _ (by omega))
  have hat_kp := hat_kp.kept (hoq _ (by omega))
  have hat_dr := hat_dr.kept (hoq _ (by omega))
  have hat_al : va_at G.1 vwCl (H2.size, .inl (G.2 3, 4, .inl (upd (fun _ => 0) 0 (nI 1)))) H4 := by rw [show (upd (fun _ => 0) 0 (nI 1)) = _ from (l_idz1 (by omega))]; exact hat9
  have ho := ho.put hsz hoq hx_al
  refine lv_dup hx hb dL_areBudgets_17 rfl ?_
  refine lv_iconst (v := nI 1) hx hb dL_areBudgets_18 (by decide) ?_
  refine lv_iconst (v := nI 1) hx hb dL_areBudgets_19 (by decide) ?_
  refine q_zast hx hb hC.1 hat_al (hA _ hx_al) hS 3 rfl (vp_in_nI (n := 1) (by omega) (by omega)) dL_areBudgets_20 (fun H5 locs hat9 hsz hoq hS => ?_)
  have hat_m := hat_m.kept (hoq _ (by omega))
  have hat_b := hat_b.kept (hoq _ (by omega))
  have hat_kp := hat_kp.kept (hoq _ (by omega))
  have hat_dr := hat_dr.kept (hoq _ (by omega))
  have hat_al : va_at G.1 vwCl (H2.size, .inl (G.2 3, 4, .inl (upd (upd (fun _ => 0) 0 (nI 1)) 1 (nI 1)))) H5 := by rw [show (upd (upd (fun _ => 0) 0 (nI 1)) 1 (nI 1)) = _ from (l_idz1 (by omega))]; exact hat9
  have ho := ho.put hsz hoq hx_al
  refine lv_dup hx hb dL_areBudgets_21 rfl ?_
  refine lv_iconst (v := nI 2) hx hb dL_areBudgets_22 (by decide) ?_
  refine lv_iconst (v := nI 1) hx hb dL_areBudgets_23 (by decide) ?_
  refine q_zast hx hb hC.1 hat_al (hA _ hx_al) hS 3 rfl (vp_in_nI (n := 2) (by omega) (by omega)) dL_areBudgets_24 (fun H6 locs hat9 hsz hoq hS => ?_)
  have hat_m := hat_m.kept (hoq _ (by omega))
  have hat_b := hat_b.kept (hoq _ (by omega))
  have hat_kp := hat_kp.kept (hoq _ (by omega))
  have hat_dr := hat_dr.kept (hoq _ (by omega))
  have hat_al : va_at G.1 vwCl (H2.size, .inl (G.2 3, 4, .inl (upd (upd (upd (fun _ => 0) 0 (nI 1)) 1 (nI 1)) 2 (nI 1)))) H6 := by rw [show (upd (upd (upd (fun _ => 0) 0 (nI 1)) 1 (nI 1)) 2 (nI 1)) = _ from (l_idz1 (by omega))]; exact hat9
  have ho := ho.put hsz hoq hx_al
  refine lv_dup hx hb dL_areBudgets_25 rfl ?_
  refine lv_iconst (v := nI 3) hx hb dL_areBudgets_26 (by decide) ?_
  refine lv_iconst (v := nI 1) hx hb dL_areBudgets_27 (by decide) ?_
  refine q_zast hx hb hC.1 hat_al (hA _ hx_al) hS 3 rfl (vp_in_nI (n := 3) (by omega) (by omega)) dL_areBudgets_28 (fun H7 locs hat9 hsz hoq hS => ?_)
  have hat_m := hat_m.kept (hoq _ (by omega))
  have hat_b := hat_b.kept (hoq _ (by omega))
  have hat_kp := hat_kp.kept (hoq _ (by omega))
  have hat_dr := hat_dr.kept (hoq _ (by omega))
  have hat_al : va_at G.1 vwCl (H2.size, .inl (G.2 3, 4, .inl (upd (upd (upd (upd (fun _ => 0) 0 (nI 1)) 1 (nI 1)) 2 (nI 1)) 3 (nI 1)))) H7 := by rw [show (upd (upd (upd (upd (fun _ => 0) 0 (nI 1)) 1 (nI 1)) 2 (nI 1)) 3 (nI 1)) = _ from (l_idz1 (by omega))]; exact hat9
  have ho := ho.put hsz hoq hx_al
  refine lv_astore (lv' := [(6, .ref (H2.size)), (5, .ref (H1.size)), (4, .ref (s.heap.size)), (0, .ref (ad 0 0)), (1, .ref (zm)), (2, .ref (zb)), (3, .int (nI (σ 0 0)))]) hx hb dL_areBudgets_29 hl (by decide) rfl (fun ls hl => ?_)
  refine lv_lconst (v := lN 0) hx hb dL_areBudgets_31 (by decide) ?_
  refine lv_lstore (lv' := [(7, .long (lN 0)), (6, .ref (H2.size)), (5, .ref (H1.size)), (4, .ref (s.heap.size)), (0, .ref (ad 0 0)), (1, .ref (zm)), (2, .ref (zb)), (3, .int (nI (σ 0 0)))]) hx hb dL_areBudgets_32 hl (by decide) rfl (fun ls hl => ?_)
  refine lv_iconst (v := nI 0) hx hb dL_areBudgets_34 (by decide) ?_
  refine lv_istore (lv' := [(9, .int (nI 0)), (7, .long (lN 0)), (6, .ref (H2.size)), (5, .ref (H1.size)), (4, .ref (s.heap.size)), (0, .ref (ad 0 0)), (1, .ref (zm)), (2, .ref (zb)), (3, .int (nI (σ 0 0)))]) hx hb dL_areBudgets_35 hl (by decide) rfl (fun ls hl => ?_)
  refine lv_aload_n hx hb dL_areBudgets_37 rfl (lv_at hl 5 rfl) ?_
  refine lv_iconst (v := nI 0) hx hb dL_areBudgets_38 (by decide) ?_
  refine lv_iload_n hx hb dL_areBudgets_39 rfl (lv_at hl 8 rfl) ?_
  refine lv_iconst (v := nI 0) hx hb dL_areBudgets_40 (by decide) ?_
  refine q_ask (vx_runSW (As := [.ref (ad 0 0), .int (nI 0), .int (nI (σ 0 0)), .int (nI 0)]) (rest := []) ⟨hx, hb, hml, hown, hts⟩ (bx_stateOf1 l hst G es A σ ad hF (nI (σ 0 0)) (l_rInn (hB _ _)) (nI 0)) (vx_cwSW 4 hts gL_areBudgets_L_ask rfl rfl rfl (by decide +kernel) ⟨Nat.le_of_ble_eq_true rfl, Nat.le_of_ble_eq_true rfl⟩) ⟨qAk.blind, qAk.pre hC (hW0.same ho.2) (hZ.kept hS.2.1) (ho.up hA) hT hN⟩ rfl rfl hl.1 rfl (lv_room (Nat.le_of_ble_eq_true rfl)) dL_areBudgets_41 ⟨by show 0 + 1 + 1 + 1 + 1 ≤ 10; omega, by show 0 + 4 + 4 + 4 + 6 ≤ 100; omega⟩) hS (fun _ h => h) (fun H8 locs hz hk hS => ?_)
  have ho := ho.ext hz hk
  have hat_m := hat_m.kept (hk _ hat_m.lt)
  have hat_b := hat_b.kept (hk _ hat_b.lt)
  have hat_kp := hat_kp.kept (hk _ hat_kp.lt)
  have hat_dr := hat_dr.kept (hk _ hat_dr.lt)
  have hat_al := hat_al.kept (hk _ hat_al.lt)
  refine lv_sipush (v := -2005) hx hb dL_areBudgets_44 (by decide) ?_
  refine q_neP (P := True) (tgt := 68) hx hb (iff_of_true rfl trivial) dL_areBudgets_47 (by decide) (fun c1 => absurd trivial c1) (fun c1 => ?_)
  refine lv_aload_n hx hb dL_areBudgets_50 rfl (lv_at hl 5 rfl) ?_
  refine lv_bipush (v := nI 6) hx hb dL_areBudgets_51 (by decide) ?_
  refine lv_iconst (v := -1) hx hb dL_areBudgets_53 (by decide) ?_
  refine lv_iconst (v := nI 0) hx hb dL_areBudgets_54 (by decide) ?_
  refine q_ask (vx_runSW (As := [.ref (ad 0 0), .int (nI 6), .int (-1), .int (nI 0)]) (rest := []) ⟨hx, hb, hml, hown, hts⟩ (bx_kept1 l hst G es A σ ad hF (-1) (by decide) (nI 0)) (vx_cwSW 4 hts gL_areBudgets_L_ask rfl rfl rfl (by decide +kernel) ⟨Nat.le_of_ble_eq_true rfl, Nat.le_of_ble_eq_true rfl⟩) ⟨qAk.blind, qAk.pre hC (hW0.same ho.2) (hZ.kept hS.2.1) (ho.up hA) hT hN⟩ rfl rfl hl.1 rfl (lv_room (Nat.le_of_ble_eq_true rfl)) dL_areBudgets_55 ⟨by show 0 + 1 + 1 + 1 + 1 + 1 ≤ 10; omega, by show 0 + 4 + 4 + 4 + 6 + 6 ≤ 100; omega⟩) hS (fun _ h => h) (fun H9 locs hz hk hS => ?_)
  have ho := ho.ext hz hk
  have hat_m := hat_m.kept (hk _ hat_m.lt)
  have hat_b := hat_b.kept (hk _ hat_b.lt)
  have hat_kp := hat_kp.kept (hk _ hat_kp.lt)
  have hat_dr := hat_dr.kept (hk _ hat_dr.lt)
  have hat_al := hat_al.kept (hk _ hat_al.lt)
  refine lv_sipush (v := -2002) hx hb dL_areBudgets_58 (by decide) ?_
  refine q_neP (P := True) (tgt := 68) hx hb (iff_of_true rfl trivial) dL_areBudgets_61 (by decide) (fun c1 => absurd trivial c1) (fun c1 => ?_)
  refine lv_iconst (v := nI 1) hx hb dL_areBudgets_64 (by decide) ?_
  refine lv_goto (tgt := 69) hx hb dL_areBudgets_65 (by decide) ?_
  refine lv_istore (lv' := [(10, .int (nI 1)), (9, .int (nI 0)), (7, .long (lN 0)), (6, .ref (H2.size)), (5, .ref (H1.size)), (4, .ref (s.heap.size)), (0, .ref (ad 0 0)), (1, .ref (zm)), (2, .ref (zb)), (3, .int (nI (σ 0 0)))]) hx hb dL_areBudgets_69 hl (by decide) rfl (fun ls hl => ?_)
  refine lv_iconst (v := nI 0) hx hb dL_areBudgets_71 (by decide) ?_
  refine lv_istore (lv' := [(11, .int (nI 0)), (10, .int (nI 1)), (9, .int (nI 0)), (7, .long (lN 0)), (6, .ref (H2.size)), (5, .ref (H1.size)), (4, .ref (s.heap.size)), (0, .ref (ad 0 0)), (1, .ref (zm)), (2, .ref (zb)), (3, .int (nI (σ 0 0)))]) hx hb dL_areBudgets_72 hl (by decide) rfl (fun ls hl => ?_)
  refine q_up (σ 0 0) (fun z H locs ls => qHo s.heap H ∧ va_S A s.heap H locs ∧ ∃ (bt : Nat), (bt = qsum (fun l9 => σ 66 l9) z) ∧ ∃ (gn : Nat), (gn = qsum (fun l9 => qB (σ 69 l9 = 100)) z) ∧ ∃ (kf : Nat → Int32), (∀ s9, s9 < 4 → kf s9 = nI (qsum ((fun s8 => qkp σ s8) s9) z)) ∧ ∃ (df : Nat → Int32), (∀ s9, s9 < 4 → df s9 = nI (qsum ((fun s8 l8 => qB (σ 64 l8 = s8 ∧ σ 69 l8 = 100)) s9) z)) ∧ ∃ (lf : Nat → Int32), (∀ s9, s9 < 4 → lf s9 = nI (qB (qsum ((fun s8 l8 => qB (σ 64 l8 = s8 ∧ σ 69 l8 = 107 ∧ σ 70 l8 = 0)) s9) z = 0))) ∧ va_at G.1 vwCl (zm, .inl (G.2 1, 1400, .inl mf)) H ∧ va_at G.1 vwCl (zb, .inl (G.2 1, 4, .inl bf)) H ∧ va_at G.1 vwCl (s.heap.size, .inl (G.2 1, 4, .inl kf)) H ∧ va_at G.1 vwCl (H1.size, .inl (G.2 1, 4, .inl df)) H ∧ va_at G.1 vwCl (H2.size, .inl (G.2 3, 4, .inl lf)) H ∧ lv_has ls 14 [(6, .ref (H2.size)), (5, .ref (H1.size)), (4, .ref (s.heap.size)), (0, .ref (ad 0 0)), (1, .ref (zm)), (2, .ref (zb)), (3, .int (nI (σ 0 0))), (10, .int (nI 1)), (7, .long (lN bt)), (9, .int (nI gn)), (11, .int (nI z))]) ?_ ?_ (i0 := 0) (Nat.zero_le _) ⟨ho, hS, 0, rfl, 0, rfl, (fun _ => 0), fun _ _ => rfl, (fun _ => 0), fun _ _ => rfl, (upd (upd (upd (upd (fun _ => 0) 0 (nI 1)) 1 (nI 1)) 2 (nI 1)) 3 (nI 1)), fun s9 h9 => (l_all4 rfl s9 h9).trans (by rw [qB_t (show qsum _ 0 = 0 from rfl)]), hat_m, hat_b, hat_kp, hat_dr, hat_al, lv_sub hl [4, 5, 6, 7, 8, 9, 10, 1, 3, 2, 0] rfl⟩
  · rintro H10 locs ls ⟨ho, hS, bt, e_bt, gn, e_gn, kf, e_kf, df, e_df, lf, e_lf, hat_m, hat_b, hat_kp, hat_dr, hat_al, hl⟩
    refine lv_iload hx hb dL_areBudgets_74 (lv_at hl 10 rfl) ?_
    refine lv_iload_n hx hb dL_areBudgets_76 rfl (lv_at hl 6 rfl) ?_
    refine q_ge (tgt := 223) hx hb (q31 (hB _ _)) (q31 (hB _ _)) dL_areBudgets_77 (by decide) (fun gq1 => ?_) (fun gq1 => (by omega))
    refine lv_iconst (v := nI 0) hx hb dL_areBudgets_223 (by decide) ?_
    refine lv_istore (lv' := [(11, .int (nI 0)), (6, .ref (H2.size)), (5, .ref (H1.size)), (4, .ref (s.heap.size)), (0, .ref (ad 0 0)), (1, .ref (zm)), (2, .ref (zb)), (3, .int (nI (σ 0 0))), (10, .int (nI 1)), (7, .long (lN bt)), (9, .int (nI gn))]) hx hb dL_areBudgets_224 hl (by decide) rfl (fun ls hl => ?_)
    refine q_up 4 (fun k H locs ls => qHo s.heap H ∧ va_S A s.heap H locs ∧ va_at G.1 vwCl (zm, .inl (G.2 1, 1400, .inl mf)) H ∧ va_at G.1 vwCl (zb, .inl (G.2 1, 4, .inl bf)) H ∧ va_at G.1 vwCl (s.heap.size, .inl (G.2 1, 4, .inl kf)) H ∧ va_at G.1 vwCl (H1.size, .inl (G.2 1, 4, .inl df)) H ∧ va_at G.1 vwCl (H2.size, .inl (G.2 3, 4, .inl lf)) H ∧ lv_has ls 14 [(6, .ref (H2.size)), (5, .ref (H1.size)), (4, .ref (s.heap.size)), (0, .ref (ad 0 0)), (1, .ref (zm)), (2, .ref (zb)), (3, .int (nI (σ 0 0))), (10, .int (nI 1)), (7, .long (lN bt)), (9, .int (nI gn)), (11, .int (nI k))]) ?_ ?_ (i0 := 0) (Nat.zero_le _) ⟨ho, hS, hat_m, hat_b, hat_kp, hat_dr, hat_al, lv_sub hl [1, 2, 3, 4, 5, 6, 7, 8, 9, 10, 0] rfl⟩
    · rintro H11 locs ls ⟨ho, hS, hat_m, hat_b, hat_kp, hat_dr, hat_al, hl⟩
      refine lv_iload hx hb dL_areBudgets_226 (lv_at hl 10 rfl) ?_
      refine lv_iconst (v := nI 4) hx hb dL_areBudgets_228 (by decide) ?_
      refine q_ge (tgt := 311) hx hb (by decide) (by decide) dL_areBudgets_229 (by decide) (fun gq2 => ?_) (fun gq2 => (by omega))
      refine lv_iload hx hb dL_areBudgets_311 (lv_at hl 7 rfl) ?_
      refine q_eq0 (tgt := 363) hx hb (by decide) dL_areBudgets_313 (by decide) (fun gq3 => (by omega)) (fun gq3 => ?_)
      refine lv_aload_n hx hb dL_areBudgets_316 rfl (lv_at hl 3 rfl) ?_
      refine q_v (va_runV (As := []) (rest := []) ⟨hx, hb, hml, hown, hts⟩ (m_bytes l G es A σ ad hF) (cwV 0 hts gL_areBudgets_X7_bytes rfl rfl rfl (by decide +kernel) ⟨Nat.le_of_ble_eq_true rfl, Nat.le_of_ble_eq_true rfl⟩) ⟨qR.blind, qrecv hC ((hW0.same ho.2).to qLV0) rfl, qR.pre hC (hW0.same ho.2)⟩ rfl rfl hl.1 rfl (lv_room (Nat.le_of_ble_eq_true rfl)) dL_areBudgets_317 ⟨by show 0 + 1 + 1 + 1 + 1 + 1 ≤ 10; omega, by show 0 + 4 + 4 + 4 + 6 + 6 ≤ 100; omega⟩) hS (fun _ h => h.elim) (fun locs hS => ?_)
      refine lv_lload hx hb dL_areBudgets_320 (lv_at hl 8 rfl) ?_
      refine W.lcmp hx hb dL_areBudgets_322 ?_
      refine q_ti (y := nI 0) (by rw [e_bt]; exact l_cmp _) ?_
      refine q_ne0 (tgt := 363) hx hb (by decide) dL_areBudgets_323 (by decide) (fun gq4 => (by omega)) (fun gq4 => ?_)
      refine lv_aload_n hx hb dL_areBudgets_326 rfl (lv_at hl 3 rfl) ?_
      refine q_v (va_runV (As := []) (rest := []) ⟨hx, hb, hml, hown, hts⟩ (m_lines l G es A σ ad hF) (cwV 0 hts gL_areBudgets_X7_lines rfl rfl rfl (by decide +kernel) ⟨Nat.le_of_ble_eq_true rfl, Nat.le_of_ble_eq_true rfl⟩) ⟨qR.blind, qrecv hC ((hW0.same ho.2).to qLV0) rfl, qR.pre hC (hW0.same ho.2)⟩ rfl rfl hl.1 rfl (lv_room (Nat.le_of_ble_eq_true rfl)) dL_areBudgets_327 ⟨by show 0 + 1 + 1 + 1 + 1 + 1 ≤ 10; omega, by show 0 + 4 + 4 + 4 + 6 + 6 ≤ 100; omega⟩) hS (fun _ h => h.elim) (fun locs hS => ?_)
      refine lv_iload_n hx hb dL_areBudgets_330 rfl (lv_at hl 6 rfl) ?_
      refine q_ne (tgt := 363) hx hb (q31 (hB _ _)) (q31 (hB _ _)) dL_areBudgets_331 (by decide) (fun gq5 => (by omega)) (fun gq5 => ?_)
      refine lv_iload_n hx hb dL_areBudgets_334 rfl (lv_at hl 6 rfl) ?_
      refine q_eq0 (tgt := 352) hx hb (q31 (hB _ _)) dL_areBudgets_335 (by decide) (fun c3 => ?_) (fun c3 => ?_)
      · skip
        refine lv_aload_n hx hb dL_areBudgets_352 rfl (lv_at hl 3 rfl) ?_
        refine q_v (va_runV (As := []) (rest := []) ⟨hx, hb, hml, hown, hts⟩ (m_isSound l G es A σ ad hF (l_snd hv).1 (l_snd hv).2.1 (l_snd hv).2.2) (cwV 0 hts gL_areBudgets_X7_isSound rfl rfl rfl (by decide +kernel) ⟨Nat.le_of_ble_eq_true rfl, Nat.le_of_ble_eq_true rfl⟩) ⟨qR.blind, qrecv hC ((hW0.same ho.2).to qLV0) rfl, qR.pre hC (hW0.same ho.2)⟩ rfl rfl hl.1 rfl (lv_room (Nat.le_of_ble_eq_true rfl)) dL_areBudgets_353 ⟨by show 0 + 1 + 1 + 1 + 1 + 1 ≤ 10; omega, by show 0 + 4 + 4 + 4 + 6 + 6 ≤ 100; omega⟩) hS (fun _ h => h.elim) (fun locs hS => ?_)
        refine q_eq0 (tgt := 363) hx hb (by decide) dL_areBudgets_356 (by decide) (fun gq6 => (by omega)) (fun gq6 => ?_)
        refine lv_iconst (v := nI 1) hx hb dL_areBudgets_359 (by decide) ?_
        refine lv_goto (tgt := 364) hx hb dL_areBudgets_360 (by decide) ?_
        refine W.widen (k := 10) (n := 100) (by omega) (by omega) ?_
        exact W.zret (v := nI 1) hx hb hr rfl (fun t ht _ => ⟨rfl, by rw [ht]; exact ho⟩) hS.2.2 dL_areBudgets_364
      · skip
        have hpos : 0 < σ 0 0 := by omega
        refine lv_aload_n hx hb dL_areBudgets_338 rfl (lv_at hl 3 rfl) ?_
        refine q_v (va_runV (As := []) (rest := []) ⟨hx, hb, hml, hown, hts⟩ (m_droppedShare l G es A σ ad hF hpos) (cwV 0 hts gL_areBudgets_X7_droppedShare rfl rfl rfl (by decide +kernel) ⟨Nat.le_of_ble_eq_true rfl, Nat.le_of_ble_eq_true rfl⟩) ⟨qR.blind, qrecv hC ((hW0.same ho.2).to qLV0) rfl, qR.pre hC (hW0.same ho.2)⟩ rfl rfl hl.1 rfl (lv_room (Nat.le_of_ble_eq_true rfl)) dL_areBudgets_339 ⟨by show 0 + 1 + 1 + 1 + 1 + 1 ≤ 10; omega, by show 0 + 4 + 4 + 4 + 6 + 6 ≤ 100; omega⟩) hS (fun _ h => h.elim) (fun locs hS => ?_)
        refine lv_iload hx hb dL_areBudgets_342 (lv_at hl 9 rfl) ?_
        refine lv_i2f hx hb dL_areBudgets_344 ?_
        refine lv_iload_n hx hb dL_areBudgets_345 rfl (lv_at hl 6 rfl) ?_
        refine lv_i2f hx hb dL_areBudgets_346 ?_
        refine lv_fdiv hx hb dL_areBudgets_347 (rfl_fdiv _ (nI_ne0 (by omega) (by omega))) ?_
        refine lv_fcmp hx hb dL_areBudgets_348 ?_
        refine q_ti (y := nI 0) (by rw [e_gn]; exact rfl_cmp32 (rfl_fdiv _ (nI_ne0 (by omega) (by omega))) _) ?_
        refine q_ne0 (tgt := 363) hx hb (by decide) dL_areBudgets_349 (by decide) (fun gq7 => (by omega)) (fun gq7 => ?_)
        refine lv_aload_n hx hb dL_areBudgets_352 rfl (lv_at hl 3 rfl) ?_
        refine q_v (va_runV (As := []) (rest := []) ⟨hx, hb, hml, hown, hts⟩ (m_isSound l G es A σ ad hF (l_snd hv).1 (l_snd hv).2.1 (l_snd hv).2.2) (cwV 0 hts gL_areBudgets_X7_isSound rfl rfl rfl (by decide +kernel) ⟨Nat.le_of_ble_eq_true rfl, Nat.le_of_ble_eq_true rfl⟩) ⟨qR.blind, qrecv hC ((hW0.same ho.2).to qLV0) rfl, qR.pre hC (hW0.same ho.2)⟩ rfl rfl hl.1 rfl (lv_room (Nat.le_of_ble_eq_true rfl)) dL_areBudgets_353 ⟨by show 0 + 1 + 1 + 1 + 1 + 1 ≤ 10; omega, by show 0 + 4 + 4 + 4 + 6 + 6 ≤ 100; omega⟩) hS (fun _ h => h.elim) (fun locs hS => ?_)
        refine q_eq0 (tgt := 363) hx hb (by decide) dL_areBudgets_356 (by decide) (fun gq8 => (by omega)) (fun gq8 => ?_)
        refine lv_iconst (v := nI 1) hx hb dL_areBudgets_359 (by decide) ?_
        refine lv_goto (tgt := 364) hx hb dL_areBudgets_360 (by decide) ?_
        refine W.widen (k := 10) (n := 100) (by omega) (by omega) ?_
        exact W.zret (v := nI 1) hx hb hr rfl (fun t ht _ => ⟨rfl, by rw [ht]; exact ho⟩) hS.2.2 dL_areBudgets_364
    · rintro k H12 locs ls hi_k ⟨ho, hS, hat_m, hat_b, hat_kp, hat_dr, hat_al, hl⟩ ih_k
      refine lv_iload hx hb dL_areBudgets_226 (lv_at hl 10 rfl) ?_
      refine lv_iconst (v := nI 4) hx hb dL_areBudgets_228 (by decide) ?_
      refine q_ge (tgt := 311) hx hb (by omega) (by decide) dL_areBudgets_229 (by decide) (fun gq9 => (by omega)) (fun gq9 => ?_)
      refine lv_iload hx hb dL_areBudgets_232 (lv_at hl 7 rfl) ?_
      refine q_eq0 (tgt := 302) hx hb (by decide) dL_areBudgets_234 (by decide) (fun gq10 => (by omega)) (fun gq10 => ?_)
      refine lv_aload_n hx hb dL_areBudgets_237 rfl (lv_at hl 3 rfl) ?_
      refine lv_bipush (v := nI 6) hx hb dL_areBudgets_238 (by decide) ?_
      refine lv_iload hx hb dL_areBudgets_240 (lv_at hl 10 rfl) ?_
      refine lv_iconst (v := nI 0) hx hb dL_areBudgets_242 (by decide) ?_
      refine q_v (vx_runSW (As := [.ref (ad 0 0), .int (nI 6), .int (nI k), .int (nI 0)]) (rest := []) ⟨hx, hb, hml, hown, hts⟩ (b_kept l G es A σ ad hF k hi_k (nI 0)) (vx_cwSW 4 hts gL_areBudgets_L_ask rfl rfl rfl (by decide +kernel) ⟨Nat.le_of_ble_eq_true rfl, Nat.le_of_ble_eq_true rfl⟩) ⟨qR.blind, qR.pre hC (hW0.same ho.2)⟩ rfl rfl hl.1 rfl (lv_room (Nat.le_of_ble_eq_true rfl)) dL_areBudgets_243 ⟨by show 0 + 1 + 1 + 1 + 1 + 1 ≤ 10; omega, by show 0 + 4 + 4 + 4 + 6 + 6 ≤ 100; omega⟩) hS (fun _ h => h.elim) (fun locs hS => ?_)
      refine lv_aload hx hb dL_areBudgets_246 (lv_at hl 2 rfl) ?_
      refine lv_iload hx hb dL_areBudgets_248 (lv_at hl 10 rfl) ?_
      refine r_iald hx hb hC.1 hat_kp 1 rfl (i := k) (by omega) (by decide) (v := nI (qkept σ k)) (e_kf k hi_k) dL_areBudgets_250 ?_
      refine q_neP (P := True) (tgt := 302) hx hb (iff_of_true rfl trivial) dL_areBudgets_251 (by decide) (fun c1 => absurd trivial c1) (fun c1 => ?_)
      refine lv_aload_n hx hb dL_areBudgets_254 rfl (lv_at hl 3 rfl) ?_
      refine lv_bipush (v := nI 7) hx hb dL_areBudgets_255 (by decide) ?_
      refine lv_iload hx hb dL_areBudgets_257 (lv_at hl 10 rfl) ?_
      refine lv_iconst (v := nI 0) hx hb dL_areBudgets_259 (by decide) ?_
      refine q_v (vx_runSW (As := [.ref (ad 0 0), .int (nI 7), .int (nI k), .int (nI 0)]) (rest := []) ⟨hx, hb, hml, hown, hts⟩ (b_dropped l G es A σ ad hF k hi_k (nI 0)) (vx_cwSW 4 hts gL_areBudgets_L_ask rfl rfl rfl (by decide +kernel) ⟨Nat.le_of_ble_eq_true rfl, Nat.le_of_ble_eq_true rfl⟩) ⟨qR.blind, qR.pre hC (hW0.same ho.2)⟩ rfl rfl hl.1 rfl (lv_room (Nat.le_of_ble_eq_true rfl)) dL_areBudgets_260 ⟨by show 0 + 1 + 1 + 1 + 1 + 1 ≤ 10; omega, by show 0 + 4 + 4 + 4 + 6 + 6 ≤ 100; omega⟩) hS (fun _ h => h.elim) (fun locs hS => ?_)
      refine lv_aload hx hb dL_areBudgets_263 (lv_at hl 1 rfl) ?_
      refine lv_iload hx hb dL_areBudgets_265 (lv_at hl 10 rfl) ?_
      refine r_iald hx hb hC.1 hat_dr 1 rfl (i := k) (by omega) (by decide) (v := nI (qsum (fun l => qB (σ 64 l = k ∧ σ 69 l = 100)) (σ 0 0))) (e_df k hi_k) dL_areBudgets_267 ?_
      refine q_neP (P := True) (tgt := 302) hx hb (iff_of_true rfl trivial) dL_areBudgets_268 (by decide) (fun c1 => absurd trivial c1) (fun c1 => ?_)
      refine lv_aload_n hx hb dL_areBudgets_271 rfl (lv_at hl 5 rfl) ?_
      refine lv_iload hx hb dL_areBudgets_272 (lv_at hl 10 rfl) ?_
      refine r_iald hx hb hC.1 hat_b 1 rfl (i := k) (by omega) (by decide) (v := nI (σ 48 k)) (hL k hi_k) dL_areBudgets_274 ?_
      refine q_lt0 (tgt := 298) hx hb (q31 (hB _ _)) dL_areBudgets_275 (by decide) (fun gq11 => gq11.elim) (fun gq11 => ?_)
      refine lv_aload hx hb dL_areBudgets_278 (lv_at hl 2 rfl) ?_
      refine lv_iload hx hb dL_areBudgets_280 (lv_at hl 10 rfl) ?_
      refine r_iald hx hb hC.1 hat_kp 1 rfl (i := k) (by omega) (by decide) (v := nI (qkept σ k)) (e_kf k hi_k) dL_areBudgets_282 ?_
      refine lv_aload_n hx hb dL_areBudgets_283 rfl (lv_at hl 5 rfl) ?_
      refine lv_iload hx hb dL_areBudgets_284 (lv_at hl 10 rfl) ?_
      refine r_iald hx hb hC.1 hat_b 1 rfl (i := k) (by omega) (by decide) (v := nI (σ 48 k)) (hL k hi_k) dL_areBudgets_286 ?_
      refine q_le (tgt := 298) hx hb (q31 (qkept_lt hF _)) (q31 (hB _ _)) dL_areBudgets_287 (by decide) (fun c5 => ?_) (fun c5 => ?_)
      · skip
        refine lv_iconst (v := nI 1) hx hb dL_areBudgets_298 (by decide) ?_
        refine lv_goto (tgt := 303) hx hb dL_areBudgets_299 (by decide) ?_
        refine lv_istore (lv' := [(10, .int (nI 1)), (6, .ref (H2.size)), (5, .ref (H1.size)), (4, .ref (s.heap.size)), (0, .ref (ad 0 0)), (1, .ref (zm)), (2, .ref (zb)), (3, .int (nI (σ 0 0))), (7, .long (lN bt)), (9, .int (nI gn)), (11, .int (nI k))]) hx hb dL_areBudgets_303 hl (by decide) rfl (fun ls hl => ?_)
        refine lv_iinc (v := nI (k + 1)) (lv' := [(11, .int (nI (k + 1))), (10, .int (nI 1)), (6, .ref (H2.size)), (5, .ref (H1.size)), (4, .ref (s.heap.size)), (0, .ref (ad 0 0)), (1, .ref (zm)), (2, .ref (zb)), (3, .int (nI (σ 0 0))), (7, .long (lN bt)), (9, .int (nI gn))]) hx hb dL_areBudgets_305 hl (k := 10) rfl (nI_1 k) (by decide) rfl (fun ls hl => ?_)
        refine lv_goto (tgt := 226) hx hb dL_areBudgets_308 (by decide) ?_
        exact ih_k _ locs ls ⟨ho, hS, hat_m, hat_b, hat_kp, hat_dr, hat_al, lv_sub hl [2, 3, 4, 5, 6, 7, 8, 1, 9, 10, 0] rfl⟩
      · skip
        refine lv_aload hx hb dL_areBudgets_290 (lv_at hl 0 rfl) ?_
        refine lv_iload hx hb dL_areBudgets_292 (lv_at hl 10 rfl) ?_
        refine r_zald hx hb hC.1 hat_al 3 rfl (i := k) (by omega) (by decide) (v := nI 1) ((e_lf k hi_k).trans (by rw [qB_t (l_bud (hj.1 k hi_k) (by omega))])) dL_areBudgets_294 ?_
        refine q_eq0 (tgt := 302) hx hb (by decide) dL_areBudgets_295 (by decide) (fun gq12 => (by omega)) (fun gq12 => ?_)
        refine lv_iconst (v := nI 1) hx hb dL_areBudgets_298 (by decide) ?_
        refine lv_goto (tgt := 303) hx hb dL_areBudgets_299 (by decide) ?_
        refine lv_istore (lv' := [(10, .int (nI 1)), (6, .ref (H2.size)), (5, .ref (H1.size)), (4, .ref (s.heap.size)), (0, .ref (ad 0 0)), (1, .ref (zm)), (2, .ref (zb)), (3, .int (nI (σ 0 0))), (7, .long (lN bt)), (9, .int (nI gn)), (11, .int (nI k))]) hx hb dL_areBudgets_303 hl (by decide) rfl (fun ls hl => ?_)
        refine lv_iinc (v := nI (k + 1)) (lv' := [(11, .int (nI (k + 1))), (10, .int (nI 1)), (6, .ref (H2.size)), (5, .ref (H1.size)), (4, .ref (s.heap.size)), (0, .ref (ad 0 0)), (1, .ref (zm)), (2, .ref (zb)), (3, .int (nI (σ 0 0))), (7, .long (lN bt)), (9, .int (nI gn))]) hx hb dL_areBudgets_305 hl (k := 10) rfl (nI_1 k) (by decide) rfl (fun ls hl => ?_)
        refine lv_goto (tgt := 226) hx hb dL_areBudgets_308 (by decide) ?_
        exact ih_k _ locs ls ⟨ho, hS, hat_m, hat_b, hat_kp, hat_dr, hat_al, lv_sub hl [2, 3, 4, 5, 6, 7, 8, 1, 9, 10, 0] rfl⟩
  · rintro z H13 locs ls hi_z ⟨ho, hS, bt, e_bt, gn, e_gn, kf, e_kf, df, e_df, lf, e_lf, hat_m, hat_b, hat_kp, hat_dr, hat_al, hl⟩ ih_z
    refine lv_iload hx hb dL_areBudgets_74 (lv_at hl 10 rfl) ?_
    refine lv_iload_n hx hb dL_areBudgets_76 rfl (lv_at hl 6 rfl) ?_
    refine q_ge (tgt := 223) hx hb (by omega) (q31 (hB _ _)) dL_areBudgets_77 (by decide) (fun gq13 => (by omega)) (fun gq13 => ?_)
    have hs2 := hj.2.2.2 z hi_z
    have hs4 : σ 64 z < 4 := by omega
    refine lv_aload_n hx hb dL_areBudgets_80 rfl (lv_at hl 3 rfl) ?_
    refine lv_iconst (v := nI 0) hx hb dL_areBudgets_81 (by decide) ?_
    refine lv_iload hx hb dL_areBudgets_82 (lv_at hl 10 rfl) ?_
    refine lv_iconst (v := nI 0) hx hb dL_areBudgets_84 (by decide) ?_
    refine q_v (vx_runSW (As := [.ref (ad 0 0), .int (nI 0), .int (nI z), .int (nI 0)]) (rest := []) ⟨hx, hb, hml, hown, hts⟩ (b_stateOf l G es A σ ad hF z hi_z (nI 0)) (vx_cwSW 4 hts gL_areBudgets_L_ask rfl rfl rfl (by decide +kernel) ⟨Nat.le_of_ble_eq_true rfl, Nat.le_of_ble_eq_true rfl⟩) ⟨qR.blind, qR.pre hC (hW0.same ho.2)⟩ rfl rfl hl.1 rfl (lv_room (Nat.le_of_ble_eq_true rfl)) dL_areBudgets_85 ⟨by show 0 + 1 + 1 + 1 + 1 + 1 ≤ 10; omega, by show 0 + 4 + 4 + 4 + 6 + 6 ≤ 100; omega⟩) hS (fun _ h => h.elim) (fun locs hS => ?_)
    refine lv_istore (lv' := [(12, .int (nI (σ 69 z))), (6, .ref (H2.size)), (5, .ref (H1.size)), (4, .ref (s.heap.size)), (0, .ref (ad 0 0)), (1, .ref (zm)), (2, .ref (zb)), (3, .int (nI (σ 0 0))), (10, .int (nI 1)), (7, .long (lN bt)), (9, .int (nI gn)), (11, .int (nI z))]) hx hb dL_areBudgets_88 hl (by decide) rfl (fun ls hl => ?_)
    refine lv_aload_n hx hb dL_areBudgets_90 rfl (lv_at hl 5 rfl) ?_
    refine lv_bipush (v := nI 7) hx hb dL_areBudgets_91 (by decide) ?_
    refine lv_iload hx hb dL_areBudgets_93 (lv_at hl 11 rfl) ?_
    refine lv_imul hx hb dL_areBudgets_95 ?_
    refine q_ti (pk_mul 7 z) ?_
    refine r_iald hx hb hC.1 hat_m 1 rfl (i := (7 * z)) (by omega) (by decide) (v := nI (σ 64 z)) (hM z hi_z).1 dL_areBudgets_96 ?_
    refine lv_istore (lv' := [(13, .int (nI (σ 64 z))), (12, .int (nI (σ 69 z))), (6, .ref (H2.size)), (5, .ref (H1.size)), (4, .ref (s.heap.size)), (0, .ref (ad 0 0)), (1, .ref (zm)), (2, .ref (zb)), (3, .int (nI (σ 0 0))), (10, .int (nI 1)), (7, .long (lN bt)), (9, .int (nI gn)), (11, .int (nI z))]) hx hb dL_areBudgets_97 hl (by decide) rfl (fun ls hl => ?_)
    refine lv_lload hx hb dL_areBudgets_99 (lv_at hl 10 rfl) ?_
    refine lv_aload_n hx hb dL_areBudgets_101 rfl (lv_at hl 6 rfl) ?_
    refine lv_bipush (v := nI 7) hx hb dL_areBudgets_102 (by decide) ?_
    refine lv_iload hx hb dL_areBudgets_104 (lv_at hl 12 rfl) ?_
    refine lv_imul hx hb dL_areBudgets_106 ?_
    refine q_ti (pk_mul 7 z) ?_
    refine lv_iconst (v := nI 5) hx hb dL_areBudgets_107 (by decide) ?_
    refine lv_iadd hx hb dL_areBudgets_108 ?_
    refine q_ti (nI_add (7 * z) 5) ?_
    refine r_iald hx hb hC.1 hat_m 1 rfl (i := ((7 * z) + 5)) (by omega) (by decide) (v := nI (σ 66 z)) (hM z hi_z).2.2.2.1 dL_areBudgets_109 ?_
    refine lv_i2l (v := lN (σ 66 z)) hx hb dL_areBudgets_110 (nI_l (q31 (hB _ _))) ?_
    refine lv_ladd hx hb dL_areBudgets_111 ?_
    refine q_tl (lN_add bt (σ 66 z)) ?_
    refine lv_lstore (lv' := [(7, .long (lN (bt + (σ 66 z)))), (13, .int (nI (σ 64 z))), (12, .int (nI (σ 69 z))), (6, .ref (H2.size)), (5, .ref (H1.size)), (4, .ref (s.heap.size)), (0, .ref (ad 0 0)), (1, .ref (zm)), (2, .ref (zb)), (3, .int (nI (σ 0 0))), (10, .int (nI 1)), (9, .int (nI gn)), (11, .int (nI z))]) hx hb dL_areBudgets_112 hl (by decide) rfl (fun ls hl => ?_)
    refine lv_aload hx hb dL_areBudgets_114 (lv_at hl 5 rfl) ?_
    refine lv_iload hx hb dL_areBudgets_116 (lv_at hl 1 rfl) ?_
    refine lv_dup2_11 hx hb dL_areBudgets_118 rfl rfl ?_
    refine r_iald hx hb hC.1 hat_kp 1 rfl (i := (σ 64 z)) (by omega) (by decide) (v := nI (qsum ((fun s8 => qkp σ s8) (σ 64 z)) z)) (e_kf _ hs4) dL_areBudgets_119 ?_
    by_cases h107 : σ 69 z = 107
    · skip
      refine lv_iload hx hb dL_areBudgets_120 (lv_at hl 2 rfl) ?_
      refine lv_bipush (v := nI 107) hx hb dL_areBudgets_122 (by decide) ?_
      refine q_ne (tgt := 139) hx hb (q31 (hB _ _)) (by decide) dL_areBudgets_124 (by decide) (fun gq14 => (by omega)) (fun gq14 => ?_)
      refine lv_aload_n hx hb dL_areBudgets_127 rfl (lv_at hl 7 rfl) ?_
      refine lv_bipush (v := nI 7) hx hb dL_areBudgets_128 (by decide) ?_
      refine lv_iload hx hb dL_areBudgets_130 (lv_at hl 12 rfl) ?_
      refine lv_imul hx hb dL_areBudgets_132 ?_
      refine q_ti (pk_mul 7 z) ?_
      refine lv_iconst (v := nI 5) hx hb dL_areBudgets_133 (by decide) ?_
      refine lv_iadd hx hb dL_areBudgets_134 ?_
      refine q_ti (nI_add (7 * z) 5) ?_
      refine r_iald hx hb hC.1 hat_m 1 rfl (i := ((7 * z) + 5)) (by omega) (by decide) (v := nI (σ 66 z)) (hM z hi_z).2.2.2.1 dL_areBudgets_135 ?_
      refine lv_goto (tgt := 140) hx hb dL_areBudgets_136 (by decide) ?_
      refine lv_iadd hx hb dL_areBudgets_140 ?_
      refine q_ti (nI_add (qsum ((fun s8 => qkp σ s8) (σ 64 z)) z) (σ 66 z)) ?_
      refine q_iast hx hb hC.1 hat_kp (hA _ hx_kp) hS 1 rfl (vp_in_nI (n := (σ 64 z)) (by omega) (by omega)) dL_areBudgets_141 (fun H14 locs hat9 hsz hoq hS => ?_)
      have hat_m := hat_m.kept (hoq _ (by omega))
      have hat_b := hat_b.kept (hoq _ (by omega))
      have hat_dr := hat_dr.kept (hoq _ (by omega))
      have hat_al := hat_al.kept (hoq _ (by omega))
      have hat_kp : va_at G.1 vwCl (s.heap.size, .inl (G.2 1, 4, .inl (upd kf (σ 64 z) (nI (qsum ((fun s8 => qkp σ s8) (σ 64 z)) z + σ 66 z))))) H14 := by rw [show (upd kf (σ 64 z) (nI (qsum ((fun s8 => qkp σ s8) (σ 64 z)) z + σ 66 z))) = _ from (l_idx (by omega)).symm]; exact hat9
      have ho := ho.put hsz hoq hx_kp
      refine lv_aload hx hb dL_areBudgets_142 (lv_at hl 4 rfl) ?_
      refine lv_iload hx hb dL_areBudgets_144 (lv_at hl 1 rfl) ?_
      refine lv_dup2_11 hx hb dL_areBudgets_146 rfl rfl ?_
      refine r_iald hx hb hC.1 hat_dr 1 rfl (i := (σ 64 z)) (by omega) (by decide) (v := nI (qsum ((fun s8 l8 => qB (σ 64 l8 = s8 ∧ σ 69 l8 = 100)) (σ 64 z)) z)) (e_df _ hs4) dL_areBudgets_147 ?_
      refine lv_iload hx hb dL_areBudgets_148 (lv_at hl 2 rfl) ?_
      refine lv_bipush (v := nI 100) hx hb dL_areBudgets_150 (by decide) ?_
      refine q_ne (tgt := 159) hx hb (q31 (hB _ _)) (by decide) dL_areBudgets_152 (by decide) (fun gq15 => ?_) (fun gq15 => (by omega))
      refine lv_iconst (v := nI 0) hx hb dL_areBudgets_159 (by decide) ?_
      refine lv_iadd hx hb dL_areBudgets_160 ?_
      refine q_ti (nI_add (qsum ((fun s8 l8 => qB (σ 64 l8 = s8 ∧ σ 69 l8 = 100)) (σ 64 z)) z) 0) ?_
      refine q_iast hx hb hC.1 hat_dr (hA _ hx_dr) hS 1 rfl (vp_in_nI (n := (σ 64 z)) (by omega) (by omega)) dL_areBudgets_161 (fun H15 locs hat9 hsz hoq hS => ?_)
      have hat_m := hat_m.kept (hoq _ (by omega))
      have hat_b := hat_b.kept (hoq _ (by omega))
      have hat_kp := hat_kp.kept (hoq _ (by omega))
      have hat_al := hat_al.kept (hoq _ (by omega))
      have hat_dr : va_at G.1 vwCl (H1.size, .inl (G.2 1, 4, .inl (upd df (σ 64 z) (nI (qsum ((fun s8 l8 => qB (σ 64 l8 = s8 ∧ σ 69 l8 = 100)) (σ 64 z)) z + 0))))) H15 := by rw [show (upd df (σ 64 z) (nI (qsum ((fun s8 l8 => qB (σ 64 l8 = s8 ∧ σ 69 l8 = 100)) (σ 64 z)) z + 0))) = _ from (l_idx (by omega)).symm]; exact hat9
      have ho := ho.put hsz hoq hx_dr
      refine lv_iload hx hb dL_areBudgets_162 (lv_at hl 11 rfl) ?_
      refine lv_iload hx hb dL_areBudgets_164 (lv_at hl 2 rfl) ?_
      refine lv_bipush (v := nI 100) hx hb dL_areBudgets_166 (by decide) ?_
      refine q_ne (tgt := 175) hx hb (q31 (hB _ _)) (by decide) dL_areBudgets_168 (by decide) (fun gq16 => ?_) (fun gq16 => (by omega))
      refine lv_iconst (v := nI 0) hx hb dL_areBudgets_175 (by decide) ?_
      refine lv_iadd hx hb dL_areBudgets_176 ?_
      refine q_ti (nI_add gn 0) ?_
      refine lv_istore (lv' := [(9, .int (nI (gn + 0))), (7, .long (lN (bt + (σ 66 z)))), (13, .int (nI (σ 64 z))), (12, .int (nI (σ 69 z))), (6, .ref (H2.size)), (5, .ref (H1.size)), (4, .ref (s.heap.size)), (0, .ref (ad 0 0)), (1, .ref (zm)), (2, .ref (zb)), (3, .int (nI (σ 0 0))), (10, .int (nI 1)), (11, .int (nI z))]) hx hb dL_areBudgets_177 hl (by decide) rfl (fun ls hl => ?_)
      refine lv_aload hx hb dL_areBudgets_179 (lv_at hl 4 rfl) ?_
      refine lv_iload hx hb dL_areBudgets_181 (lv_at hl 2 rfl) ?_
      refine lv_aload hx hb dL_areBudgets_183 (lv_at hl 4 rfl) ?_
      refine lv_iload hx hb dL_areBudgets_185 (lv_at hl 2 rfl) ?_
      refine r_zald hx hb hC.1 hat_al 3 rfl (i := (σ 64 z)) (by omega) (by decide) (v := nI (qB (qsum ((fun s8 l8 => qB (σ 64 l8 = s8 ∧ σ 69 l8 = 107 ∧ σ 70 l8 = 0)) (σ 64 z)) z = 0))) (e_lf _ hs4) dL_areBudgets_187 ?_
      refine q_eq0 (tgt := 215) hx hb q_31B dL_areBudgets_188 (by decide) (fun c9 => ?_) (fun c9 => ?_)
      · skip
        refine lv_iconst (v := nI 0) hx hb dL_areBudgets_215 (by decide) ?_
        refine q_zast hx hb hC.1 hat_al (hA _ hx_al) hS 3 rfl (vp_in_nI (n := (σ 64 z)) (by omega) (by omega)) dL_areBudgets_216 (fun H16 locs hat9 hsz hoq hS => ?_)
        have hat_m := hat_m.kept (hoq _ (by omega))
        have hat_b := hat_b.kept (hoq _ (by omega))
        have hat_kp := hat_kp.kept (hoq _ (by omega))
        have hat_dr := hat_dr.kept (hoq _ (by omega))
        have hat_al : va_at G.1 vwCl (H2.size, .inl (G.2 3, 4, .inl (upd lf (σ 64 z) (nI 0)))) H16 := by rw [show (upd lf (σ 64 z) (nI 0)) = _ from (l_idz0 (by omega))]; exact hat9
        have ho := ho.put hsz hoq hx_al
        refine lv_iinc (v := nI (z + 1)) (lv' := [(11, .int (nI (z + 1))), (9, .int (nI (gn + 0))), (7, .long (lN (bt + (σ 66 z)))), (13, .int (nI (σ 64 z))), (12, .int (nI (σ 69 z))), (6, .ref (H2.size)), (5, .ref (H1.size)), (4, .ref (s.heap.size)), (0, .ref (ad 0 0)), (1, .ref (zm)), (2, .ref (zb)), (3, .int (nI (σ 0 0))), (10, .int (nI 1))]) hx hb dL_areBudgets_217 hl (k := 12) rfl (nI_1 z) (by decide) rfl (fun ls hl => ?_)
        refine lv_goto (tgt := 74) hx hb dL_areBudgets_220 (by decide) ?_
        exact ih_z _ locs ls ⟨ho, hS, (bt + σ 66 z), (by rw [e_bt, qsum]), (gn + 0), (by rw [e_gn, qsum, show qB (σ 69 z = 100) = 0 from qB_f (fun y9 => by omega)]), (upd kf (σ 64 z) (nI (qsum ((fun s8 => qkp σ s8) (σ 64 z)) z + σ 66 z))), (l_up4 (F := (fun s8 => qkp σ s8)) e_kf (if_pos ⟨rfl, h107⟩) (fun s9 h9 => if_neg (fun y9 => h9 y9.1.symm))), (upd df (σ 64 z) (nI (qsum ((fun s8 l8 => qB (σ 64 l8 = s8 ∧ σ 69 l8 = 100)) (σ 64 z)) z + 0))), (l_up4 (F := (fun s8 l8 => qB (σ 64 l8 = s8 ∧ σ 69 l8 = 100))) e_df (qB_f (fun y9 => by have := y9.2; omega)) (fun s9 h9 => qB_f (fun y9 => h9 y9.1.symm))), (upd lf (σ 64 z) (nI 0)), (l_al4 (F := (fun s8 l8 => qB (σ 64 l8 = s8 ∧ σ 69 l8 = 107 ∧ σ 70 l8 = 0))) e_lf (qB_f (fun y9 => l_qB0 c9 (l_q0 y9))).symm (fun s9 h9 => qB_f (fun y9 => h9 y9.1.symm))), hat_m, hat_b, hat_kp, hat_dr, hat_al, lv_sub hl [5, 6, 7, 8, 9, 10, 11, 12, 2, 1, 0] rfl⟩
      · skip
        refine lv_iload hx hb dL_areBudgets_191 (lv_at hl 3 rfl) ?_
        refine lv_bipush (v := nI 107) hx hb dL_areBudgets_193 (by decide) ?_
        refine q_ne (tgt := 211) hx hb (q31 (hB _ _)) (by decide) dL_areBudgets_195 (by decide) (fun gq17 => (by omega)) (fun gq17 => ?_)
        refine lv_aload_n hx hb dL_areBudgets_198 rfl (lv_at hl 7 rfl) ?_
        refine lv_bipush (v := nI 17) hx hb dL_areBudgets_199 (by decide) ?_
        refine lv_iload hx hb dL_areBudgets_201 (lv_at hl 12 rfl) ?_
        refine lv_iconst (v := nI 0) hx hb dL_areBudgets_203 (by decide) ?_
        refine q_v (vx_runSW (As := [.ref (ad 0 0), .int (nI 17), .int (nI z), .int (nI 0)]) (rest := [.int (nI (σ 64 z)), .ref (H2.size)]) ⟨hx, hb, hml, hown, hts⟩ (b_isGuarded l G es A σ ad hF z hi_z (nI 0)) (vx_cwSW 4 hts gL_areBudgets_L_ask rfl rfl rfl (by decide +kernel) ⟨Nat.le_of_ble_eq_true rfl, Nat.le_of_ble_eq_true rfl⟩) ⟨qR.blind, qR.pre hC (hW0.same ho.2)⟩ rfl rfl hl.1 rfl (lv_room (Nat.le_of_ble_eq_true rfl)) dL_areBudgets_204 ⟨by show 0 + 1 + 1 + 1 + 1 + 1 ≤ 10; omega, by show 0 + 4 + 4 + 4 + 6 + 6 ≤ 100; omega⟩) hS (fun _ h => h.elim) (fun locs hS => ?_)
        by_cases hq : 0 < σ 70 z
        · skip
          refine q_ti (y := nI 1) (by rw [qB_t hq]) ?_
          refine lv_iconst (v := nI 1) hx hb dL_areBudgets_207 (by decide) ?_
          refine q_ne (tgt := 215) hx hb (by decide) (by decide) dL_areBudgets_208 (by decide) (fun gq18 => (by omega)) (fun gq18 => ?_)
          refine lv_iconst (v := nI 1) hx hb dL_areBudgets_211 (by decide) ?_
          refine lv_goto (tgt := 216) hx hb dL_areBudgets_212 (by decide) ?_
          refine q_zast hx hb hC.1 hat_al (hA _ hx_al) hS 3 rfl (vp_in_nI (n := (σ 64 z)) (by omega) (by omega)) dL_areBudgets_216 (fun H17 locs hat9 hsz hoq hS => ?_)
          have hat_m := hat_m.kept (hoq _ (by omega))
          have hat_b := hat_b.kept (hoq _ (by omega))
          have hat_kp := hat_kp.kept (hoq _ (by omega))
          have hat_dr := hat_dr.kept (hoq _ (by omega))
          have hat_al : va_at G.1 vwCl (H2.size, .inl (G.2 3, 4, .inl (upd lf (σ 64 z) (nI 1)))) H17 := by rw [show (upd lf (σ 64 z) (nI 1)) = _ from (l_idz1 (by omega))]; exact hat9
          have ho := ho.put hsz hoq hx_al
          refine lv_iinc (v := nI (z + 1)) (lv' := [(11, .int (nI (z + 1))), (9, .int (nI (gn + 0))), (7, .long (lN (bt + (σ 66 z)))), (13, .int (nI (σ 64 z))), (12, .int (nI (σ 69 z))), (6, .ref (H2.size)), (5, .ref (H1.size)), (4, .ref (s.heap.size)), (0, .ref (ad 0 0)), (1, .ref (zm)), (2, .ref (zb)), (3, .int (nI (σ 0 0))), (10, .int (nI 1))]) hx hb dL_areBudgets_217 hl (k := 12) rfl (nI_1 z) (by decide) rfl (fun ls hl => ?_)
          refine lv_goto (tgt := 74) hx hb dL_areBudgets_220 (by decide) ?_
          exact ih_z _ locs ls ⟨ho, hS, (bt + σ 66 z), (by rw [e_bt, qsum]), (gn + 0), (by rw [e_gn, qsum, show qB (σ 69 z = 100) = 0 from qB_f (fun y9 => by omega)]), (upd kf (σ 64 z) (nI (qsum ((fun s8 => qkp σ s8) (σ 64 z)) z + σ 66 z))), (l_up4 (F := (fun s8 => qkp σ s8)) e_kf (if_pos ⟨rfl, h107⟩) (fun s9 h9 => if_neg (fun y9 => h9 y9.1.symm))), (upd df (σ 64 z) (nI (qsum ((fun s8 l8 => qB (σ 64 l8 = s8 ∧ σ 69 l8 = 100)) (σ 64 z)) z + 0))), (l_up4 (F := (fun s8 l8 => qB (σ 64 l8 = s8 ∧ σ 69 l8 = 100))) e_df (qB_f (fun y9 => by have := y9.2; omega)) (fun s9 h9 => qB_f (fun y9 => h9 y9.1.symm))), (upd lf (σ 64 z) (nI 1)), (l_al4 (F := (fun s8 l8 => qB (σ 64 l8 = s8 ∧ σ 69 l8 = 107 ∧ σ 70 l8 = 0))) e_lf (qB_t (l_q1 (r_un c9) (qB_f (fun y9 => absurd y9.2.2 (by omega))))).symm (fun s9 h9 => qB_f (fun y9 => h9 y9.1.symm))), hat_m, hat_b, hat_kp, hat_dr, hat_al, lv_sub hl [5, 6, 7, 8, 9, 10, 11, 12, 2, 1, 0] rfl⟩
        · skip
          refine q_ti (y := nI 0) (by rw [qB_f hq]) ?_
          refine lv_iconst (v := nI 1) hx hb dL_areBudgets_207 (by decide) ?_
          refine q_ne (tgt := 215) hx hb (by decide) (by decide) dL_areBudgets_208 (by decide) (fun gq19 => ?_) (fun gq19 => (by omega))
          refine lv_iconst (v := nI 0) hx hb dL_areBudgets_215 (by decide) ?_
          refine q_zast hx hb hC.1 hat_al (hA _ hx_al) hS 3 rfl (vp_in_nI (n := (σ 64 z)) (by omega) (by omega)) dL_areBudgets_216 (fun H18 locs hat9 hsz hoq hS => ?_)
          have hat_m := hat_m.kept (hoq _ (by omega))
          have hat_b := hat_b.kept (hoq _ (by omega))
          have hat_kp := hat_kp.kept (hoq _ (by omega))
          have hat_dr := hat_dr.kept (hoq _ (by omega))
          have hat_al : va_at G.1 vwCl (H2.size, .inl (G.2 3, 4, .inl (upd lf (σ 64 z) (nI 0)))) H18 := by rw [show (upd lf (σ 64 z) (nI 0)) = _ from (l_idz0 (by omega))]; exact hat9
          have ho := ho.put hsz hoq hx_al
          refine lv_iinc (v := nI (z + 1)) (lv' := [(11, .int (nI (z + 1))), (9, .int (nI (gn + 0))), (7, .long (lN (bt + (σ 66 z)))), (13, .int (nI (σ 64 z))), (12, .int (nI (σ 69 z))), (6, .ref (H2.size)), (5, .ref (H1.size)), (4, .ref (s.heap.size)), (0, .ref (ad 0 0)), (1, .ref (zm)), (2, .ref (zb)), (3, .int (nI (σ 0 0))), (10, .int (nI 1))]) hx hb dL_areBudgets_217 hl (k := 12) rfl (nI_1 z) (by decide) rfl (fun ls hl => ?_)
          refine lv_goto (tgt := 74) hx hb dL_areBudgets_220 (by decide) ?_
          exact ih_z _ locs ls ⟨ho, hS, (bt + σ 66 z), (by rw [e_bt, qsum]), (gn + 0), (by rw [e_gn, qsum, show qB (σ 69 z = 100) = 0 from qB_f (fun y9 => by omega)]), (upd kf (σ 64 z) (nI (qsum ((fun s8 => qkp σ s8) (σ 64 z)) z + σ 66 z))), (l_up4 (F := (fun s8 => qkp σ s8)) e_kf (if_pos ⟨rfl, h107⟩) (fun s9 h9 => if_neg (fun y9 => h9 y9.1.symm))), (upd df (σ 64 z) (nI (qsum ((fun s8 l8 => qB (σ 64 l8 = s8 ∧ σ 69 l8 = 100)) (σ 64 z)) z + 0))), (l_up4 (F := (fun s8 l8 => qB (σ 64 l8 = s8 ∧ σ 69 l8 = 100))) e_df (qB_f (fun y9 => by have := y9.2; omega)) (fun s9 h9 => qB_f (fun y9 => h9 y9.1.symm))), (upd lf (σ 64 z) (nI 0)), (l_al4 (F := (fun s8 l8 => qB (σ 64 l8 = s8 ∧ σ 69 l8 = 107 ∧ σ 70 l8 = 0))) e_lf (qB_f (fun y9 => by have h9 : qB (σ 64 z = σ 64 z ∧ σ 69 z = 107 ∧ σ 70 z = 0) = 0 := l_q2 (f := fun l8 => qB (σ 64 l8 = σ 64 z ∧ σ 69 l8 = 107 ∧ σ 70 l8 = 0)) y9; exact l_qB0 h9 ⟨rfl, h107, by omega⟩)).symm (fun s9 h9 => qB_f (fun y9 => h9 y9.1.symm))), hat_m, hat_b, hat_kp, hat_dr, hat_al, lv_sub hl [5, 6, 7, 8, 9, 10, 11, 12, 2, 1, 0] rfl⟩
    · skip
      by_cases h100 : σ 69 z = 100
      · skip
        refine lv_iload hx hb dL_areBudgets_120 (lv_at hl 2 rfl) ?_
        refine lv_bipush (v := nI 107) hx hb dL_areBudgets_122 (by decide) ?_
        refine q_ne (tgt := 139) hx hb (q31 (hB _ _)) (by decide) dL_areBudgets_124 (by decide) (fun gq20 => ?_) (fun gq20 => (by omega))
        refine lv_iconst (v := nI 0) hx hb dL_areBudgets_139 (by decide) ?_
        refine lv_iadd hx hb dL_areBudgets_140 ?_
        refine q_ti (nI_add (qsum ((fun s8 => qkp σ s8) (σ 64 z)) z) 0) ?_
        refine q_iast hx hb hC.1 hat_kp (hA _ hx_kp) hS 1 rfl (vp_in_nI (n := (σ 64 z)) (by omega) (by omega)) dL_areBudgets_141 (fun H19 locs hat9 hsz hoq hS => ?_)
        have hat_m := hat_m.kept (hoq _ (by omega))
        have hat_b := hat_b.kept (hoq _ (by omega))
        have hat_dr := hat_dr.kept (hoq _ (by omega))
        have hat_al := hat_al.kept (hoq _ (by omega))
        have hat_kp : va_at G.1 vwCl (s.heap.size, .inl (G.2 1, 4, .inl (upd kf (σ 64 z) (nI (qsum ((fun s8 => qkp σ s8) (σ 64 z)) z + 0))))) H19 := by rw [show (upd kf (σ 64 z) (nI (qsum ((fun s8 => qkp σ s8) (σ 64 z)) z + 0))) = _ from (l_idx (by omega)).symm]; exact hat9
        have ho := ho.put hsz hoq hx_kp
        refine lv_aload hx hb dL_areBudgets_142 (lv_at hl 4 rfl) ?_
        refine lv_iload hx hb dL_areBudgets_144 (lv_at hl 1 rfl) ?_
        refine lv_dup2_11 hx hb dL_areBudgets_146 rfl rfl ?_
        refine r_iald hx hb hC.1 hat_dr 1 rfl (i := (σ 64 z)) (by omega) (by decide) (v := nI (qsum ((fun s8 l8 => qB (σ 64 l8 = s8 ∧ σ 69 l8 = 100)) (σ 64 z)) z)) (e_df _ hs4) dL_areBudgets_147 ?_
        refine lv_iload hx hb dL_areBudgets_148 (lv_at hl 2 rfl) ?_
        refine lv_bipush (v := nI 100) hx hb dL_areBudgets_150 (by decide) ?_
        refine q_ne (tgt := 159) hx hb (q31 (hB _ _)) (by decide) dL_areBudgets_152 (by decide) (fun gq21 => (by omega)) (fun gq21 => ?_)
        refine lv_iconst (v := nI 1) hx hb dL_areBudgets_155 (by decide) ?_
        refine lv_goto (tgt := 160) hx hb dL_areBudgets_156 (by decide) ?_
        refine lv_iadd hx hb dL_areBudgets_160 ?_
        refine q_ti (nI_add (qsum ((fun s8 l8 => qB (σ 64 l8 = s8 ∧ σ 69 l8 = 100)) (σ 64 z)) z) 1) ?_
        refine q_iast hx hb hC.1 hat_dr (hA _ hx_dr) hS 1 rfl (vp_in_nI (n := (σ 64 z)) (by omega) (by omega)) dL_areBudgets_161 (fun H20 locs hat9 hsz hoq hS => ?_)
        have hat_m := hat_m.kept (hoq _ (by omega))
        have hat_b := hat_b.kept (hoq _ (by omega))
        have hat_kp := hat_kp.kept (hoq _ (by omega))
        have hat_al := hat_al.kept (hoq _ (by omega))
        have hat_dr : va_at G.1 vwCl (H1.size, .inl (G.2 1, 4, .inl (upd df (σ 64 z) (nI (qsum ((fun s8 l8 => qB (σ 64 l8 = s8 ∧ σ 69 l8 = 100)) (σ 64 z)) z + 1))))) H20 := by rw [show (upd df (σ 64 z) (nI (qsum ((fun s8 l8 => qB (σ 64 l8 = s8 ∧ σ 69 l8 = 100)) (σ 64 z)) z + 1))) = _ from (l_idx (by omega)).symm]; exact hat9
        have ho := ho.put hsz hoq hx_dr
        refine lv_iload hx hb dL_areBudgets_162 (lv_at hl 11 rfl) ?_
        refine lv_iload hx hb dL_areBudgets_164 (lv_at hl 2 rfl) ?_
        refine lv_bipush (v := nI 100) hx hb dL_areBudgets_166 (by decide) ?_
        refine q_ne (tgt := 175) hx hb (q31 (hB _ _)) (by decide) dL_areBudgets_168 (by decide) (fun gq22 => (by omega)) (fun gq22 => ?_)
        refine lv_iconst (v := nI 1) hx hb dL_areBudgets_171 (by decide) ?_
        refine lv_goto (tgt := 176) hx hb dL_areBudgets_172 (by decide) ?_
        refine lv_iadd hx hb dL_areBudgets_176 ?_
        refine q_ti (nI_add gn 1) ?_
        refine lv_istore (lv' := [(9, .int (nI (gn + 1))), (7, .long (lN (bt + (σ 66 z)))), (13, .int (nI (σ 64 z))), (12, .int (nI (σ 69 z))), (6, .ref (H2.size)), (5, .ref (H1.size)), (4, .ref (s.heap.size)), (0, .ref (ad 0 0)), (1, .ref (zm)), (2, .ref (zb)), (3, .int (nI (σ 0 0))), (10, .int (nI 1)), (11, .int (nI z))]) hx hb dL_areBudgets_177 hl (by decide) rfl (fun ls hl => ?_)
        refine lv_aload hx hb dL_areBudgets_179 (lv_at hl 4 rfl) ?_
        refine lv_iload hx hb dL_areBudgets_181 (lv_at hl 2 rfl) ?_
        refine lv_aload hx hb dL_areBudgets_183 (lv_at hl 4 rfl) ?_
        refine lv_iload hx hb dL_areBudgets_185 (lv_at hl 2 rfl) ?_
        refine r_zald hx hb hC.1 hat_al 3 rfl (i := (σ 64 z)) (by omega) (by decide) (v := nI (qB (qsum ((fun s8 l8 => qB (σ 64 l8 = s8 ∧ σ 69 l8 = 107 ∧ σ 70 l8 = 0)) (σ 64 z)) z = 0))) (e_lf _ hs4) dL_areBudgets_187 ?_
        refine q_eq0 (tgt := 215) hx hb q_31B dL_areBudgets_188 (by decide) (fun c9 => ?_) (fun c9 => ?_)
        · skip
          refine lv_iconst (v := nI 0) hx hb dL_areBudgets_215 (by decide) ?_
          refine q_zast hx hb hC.1 hat_al (hA _ hx_al) hS 3 rfl (vp_in_nI (n := (σ 64 z)) (by omega) (by omega)) dL_areBudgets_216 (fun H21 locs hat9 hsz hoq hS => ?_)
          have hat_m := hat_m.kept (hoq _ (by omega))
          have hat_b := hat_b.kept (hoq _ (by omega))
          have hat_kp := hat_kp.kept (hoq _ (by omega))
          have hat_dr := hat_dr.kept (hoq _ (by omega))
          have hat_al : va_at G.1 vwCl (H2.size, .inl (G.2 3, 4, .inl (upd lf (σ 64 z) (nI 0)))) H21 := by rw [show (upd lf (σ 64 z) (nI 0)) = _ from (l_idz0 (by omega))]; exact hat9
          have ho := ho.put hsz hoq hx_al
          refine lv_iinc (v := nI (z + 1)) (lv' := [(11, .int (nI (z + 1))), (9, .int (nI (gn + 1))), (7, .long (lN (bt + (σ 66 z)))), (13, .int (nI (σ 64 z))), (12, .int (nI (σ 69 z))), (6, .ref (H2.size)), (5, .ref (H1.size)), (4, .ref (s.heap.size)), (0, .ref (ad 0 0)), (1, .ref (zm)), (2, .ref (zb)), (3, .int (nI (σ 0 0))), (10, .int (nI 1))]) hx hb dL_areBudgets_217 hl (k := 12) rfl (nI_1 z) (by decide) rfl (fun ls hl => ?_)
          refine lv_goto (tgt := 74) hx hb dL_areBudgets_220 (by decide) ?_
          exact ih_z _ locs ls ⟨ho, hS, (bt + σ 66 z), (by rw [e_bt, qsum]), (gn + 1), (by rw [e_gn, qsum, show qB (σ 69 z = 100) = 1 from qB_t h100]), (upd kf (σ 64 z) (nI (qsum ((fun s8 => qkp σ s8) (σ 64 z)) z + 0))), (l_up4 (F := (fun s8 => qkp σ s8)) e_kf (if_neg (fun y9 => h107 y9.2)) (fun s9 h9 => if_neg (fun y9 => h9 y9.1.symm))), (upd df (σ 64 z) (nI (qsum ((fun s8 l8 => qB (σ 64 l8 = s8 ∧ σ 69 l8 = 100)) (σ 64 z)) z + 1))), (l_up4 (F := (fun s8 l8 => qB (σ 64 l8 = s8 ∧ σ 69 l8 = 100))) e_df (qB_t ⟨rfl, h100⟩) (fun s9 h9 => qB_f (fun y9 => h9 y9.1.symm))), (upd lf (σ 64 z) (nI 0)), (l_al4 (F := (fun s8 l8 => qB (σ 64 l8 = s8 ∧ σ 69 l8 = 107 ∧ σ 70 l8 = 0))) e_lf (qB_f (fun y9 => l_qB0 c9 (l_q0 y9))).symm (fun s9 h9 => qB_f (fun y9 => h9 y9.1.symm))), hat_m, hat_b, hat_kp, hat_dr, hat_al, lv_sub hl [5, 6, 7, 8, 9, 10, 11, 12, 2, 1, 0] rfl⟩
        · skip
          refine lv_iload hx hb dL_areBudgets_191 (lv_at hl 3 rfl) ?_
          refine lv_bipush (v := nI 107) hx hb dL_areBudgets_193 (by decide) ?_
          refine q_ne (tgt := 211) hx hb (q31 (hB _ _)) (by decide) dL_areBudgets_195 (by decide) (fun gq23 => ?_) (fun gq23 => (by omega))
          refine lv_iconst (v := nI 1) hx hb dL_areBudgets_211 (by decide) ?_
          refine lv_goto (tgt := 216) hx hb dL_areBudgets_212 (by decide) ?_
          refine q_zast hx hb hC.1 hat_al (hA _ hx_al) hS 3 rfl (vp_in_nI (n := (σ 64 z)) (by omega) (by omega)) dL_areBudgets_216 (fun H22 locs hat9 hsz hoq hS => ?_)
          have hat_m := hat_m.kept (hoq _ (by omega))
          have hat_b := hat_b.kept (hoq _ (by omega))
          have hat_kp := hat_kp.kept (hoq _ (by omega))
          have hat_dr := hat_dr.kept (hoq _ (by omega))
          have hat_al : va_at G.1 vwCl (H2.size, .inl (G.2 3, 4, .inl (upd lf (σ 64 z) (nI 1)))) H22 := by rw [show (upd lf (σ 64 z) (nI 1)) = _ from (l_idz1 (by omega))]; exact hat9
          have ho := ho.put hsz hoq hx_al
          refine lv_iinc (v := nI (z + 1)) (lv' := [(11, .int (nI (z + 1))), (9, .int (nI (gn + 1))), (7, .long (lN (bt + (σ 66 z)))), (13, .int (nI (σ 64 z))), (12, .int (nI (σ 69 z))), (6, .ref (H2.size)), (5, .ref (H1.size)), (4, .ref (s.heap.size)), (0, .ref (ad 0 0)), (1, .ref (zm)), (2, .ref (zb)), (3, .int (nI (σ 0 0))), (10, .int (nI 1))]) hx hb dL_areBudgets_217 hl (k := 12) rfl (nI_1 z) (by decide) rfl (fun ls hl => ?_)
          refine lv_goto (tgt := 74) hx hb dL_areBudgets_220 (by decide) ?_
          exact ih_z _ locs ls ⟨ho, hS, (bt + σ 66 z), (by rw [e_bt, qsum]), (gn + 1), (by rw [e_gn, qsum, show qB (σ 69 z = 100) = 1 from qB_t h100]), (upd kf (σ 64 z) (nI (qsum ((fun s8 => qkp σ s8) (σ 64 z)) z + 0))), (l_up4 (F := (fun s8 => qkp σ s8)) e_kf (if_neg (fun y9 => h107 y9.2)) (fun s9 h9 => if_neg (fun y9 => h9 y9.1.symm))), (upd df (σ 64 z) (nI (qsum ((fun s8 l8 => qB (σ 64 l8 = s8 ∧ σ 69 l8 = 100)) (σ 64 z)) z + 1))), (l_up4 (F := (fun s8 l8 => qB (σ 64 l8 = s8 ∧ σ 69 l8 = 100))) e_df (qB_t ⟨rfl, h100⟩) (fun s9 h9 => qB_f (fun y9 => h9 y9.1.symm))), (upd lf (σ 64 z) (nI 1)), (l_al4 (F := (fun s8 l8 => qB (σ 64 l8 = s8 ∧ σ 69 l8 = 107 ∧ σ 70 l8 = 0))) e_lf (qB_t (l_q1 (r_un c9) (qB_f (fun y9 => h107 y9.2.1)))).symm (fun s9 h9 => qB_f (fun y9 => h9 y9.1.symm))), hat_m, hat_b, hat_kp, hat_dr, hat_al, lv_sub hl [5, 6, 7, 8, 9, 10, 11, 12, 2, 1, 0] rfl⟩
      · skip
        refine lv_iload hx hb dL_areBudgets_120 (lv_at hl 2 rfl) ?_
        refine lv_bipush (v := nI 107) hx hb dL_areBudgets_122 (by decide) ?_
        refine q_ne (tgt := 139) hx hb (q31 (hB _ _)) (by decide) dL_areBudgets_124 (by decide) (fun gq24 => ?_) (fun gq24 => (by omega))
        refine lv_iconst (v := nI 0) hx hb dL_areBudgets_139 (by decide) ?_
        refine lv_iadd hx hb dL_areBudgets_140 ?_
        refine q_ti (nI_add (qsum ((fun s8 => qkp σ s8) (σ 64 z)) z) 0) ?_
        refine q_iast hx hb hC.1 hat_kp (hA _ hx_kp) hS 1 rfl (vp_in_nI (n := (σ 64 z)) (by omega) (by omega)) dL_areBudgets_141 (fun H23 locs hat9 hsz hoq hS => ?_)
        have hat_m := hat_m.kept (hoq _ (by omega))
        have hat_b := hat_b.kept (hoq _ (by omega))
        have hat_dr := hat_dr.kept (hoq _ (by omega))
        have hat_al := hat_al.kept (hoq _ (by omega))
        have hat_kp : va_at G.1 vwCl (s.heap.size, .inl (G.2 1, 4, .inl (upd kf (σ 64 z) (nI (qsum ((fun s8 => qkp σ s8) (σ 64 z)) z + 0))))) H23 := by rw [show (upd kf (σ 64 z) (nI (qsum ((fun s8 => qkp σ s8) (σ 64 z)) z + 0))) = _ from (l_idx (by omega)).symm]; exact hat9
        have ho := ho.put hsz hoq hx_kp
        refine lv_aload hx hb dL_areBudgets_142 (lv_at hl 4 rfl) ?_
        refine lv_iload hx hb dL_areBudgets_144 (lv_at hl 1 rfl) ?_
        refine lv_dup2_11 hx hb dL_areBudgets_146 rfl rfl ?_
        refine r_iald hx hb hC.1 hat_dr 1 rfl (i := (σ 64 z)) (by omega) (by decide) (v := nI (qsum ((fun s8 l8 => qB (σ 64 l8 = s8 ∧ σ 69 l8 = 100)) (σ 64 z)) z)) (e_df _ hs4) dL_areBudgets_147 ?_
        refine lv_iload hx hb dL_areBudgets_148 (lv_at hl 2 rfl) ?_
        refine lv_bipush (v := nI 100) hx hb dL_areBudgets_150 (by decide) ?_
        refine q_ne (tgt := 159) hx hb (q31 (hB _ _)) (by decide) dL_areBudgets_152 (by decide) (fun gq25 => ?_) (fun gq25 => (by omega))
        refine lv_iconst (v := nI 0) hx hb dL_areBudgets_159 (by decide) ?_
        refine lv_iadd hx hb dL_areBudgets_160 ?_
        refine q_ti (nI_add (qsum ((fun s8 l8 => qB (σ 64 l8 = s8 ∧ σ 69 l8 = 100)) (σ 64 z)) z) 0) ?_
        refine q_iast hx hb hC.1 hat_dr (hA _ hx_dr) hS 1 rfl (vp_in_nI (n := (σ 64 z)) (by omega) (by omega)) dL_areBudgets_161 (fun H24 locs hat9 hsz hoq hS => ?_)
        have hat_m := hat_m.kept (hoq _ (by omega))
        have hat_b := hat_b.kept (hoq _ (by omega))
        have hat_kp := hat_kp.kept (hoq _ (by omega))
        have hat_al := hat_al.kept (hoq _ (by omega))
        have hat_dr : va_at G.1 vwCl (H1.size, .inl (G.2 1, 4, .inl (upd df (σ 64 z) (nI (qsum ((fun s8 l8 => qB (σ 64 l8 = s8 ∧ σ 69 l8 = 100)) (σ 64 z)) z + 0))))) H24 := by rw [show (upd df (σ 64 z) (nI (qsum ((fun s8 l8 => qB (σ 64 l8 = s8 ∧ σ 69 l8 = 100)) (σ 64 z)) z + 0))) = _ from (l_idx (by omega)).symm]; exact hat9
        have ho := ho.put hsz hoq hx_dr
        refine lv_iload hx hb dL_areBudgets_162 (lv_at hl 11 rfl) ?_
        refine lv_iload hx hb dL_areBudgets_164 (lv_at hl 2 rfl) ?_
        refine lv_bipush (v := nI 100) hx hb dL_areBudgets_166 (by decide) ?_
        refine q_ne (tgt := 175) hx hb (q31 (hB _ _)) (by decide) dL_areBudgets_168 (by decide) (fun gq26 => ?_) (fun gq26 => (by omega))
        refine lv_iconst (v := nI 0) hx hb dL_areBudgets_175 (by decide) ?_
        refine lv_iadd hx hb dL_areBudgets_176 ?_
        refine q_ti (nI_add gn 0) ?_
        refine lv_istore (lv' := [(9, .int (nI (gn + 0))), (7, .long (lN (bt + (σ 66 z)))), (13, .int (nI (σ 64 z))), (12, .int (nI (σ 69 z))), (6, .ref (H2.size)), (5, .ref (H1.size)), (4, .ref (s.heap.size)), (0, .ref (ad 0 0)), (1, .ref (zm)), (2, .ref (zb)), (3, .int (nI (σ 0 0))), (10, .int (nI 1)), (11, .int (nI z))]) hx hb dL_areBudgets_177 hl (by decide) rfl (fun ls hl => ?_)
        refine lv_aload hx hb dL_areBudgets_179 (lv_at hl 4 rfl) ?_
        refine lv_iload hx hb dL_areBudgets_181 (lv_at hl 2 rfl) ?_
        refine lv_aload hx hb dL_areBudgets_183 (lv_at hl 4 rfl) ?_
        refine lv_iload hx hb dL_areBudgets_185 (lv_at hl 2 rfl) ?_
        refine r_zald hx hb hC.1 hat_al 3 rfl (i := (σ 64 z)) (by omega) (by decide) (v := nI (qB (qsum ((fun s8 l8 => qB (σ 64 l8 = s8 ∧ σ 69 l8 = 107 ∧ σ 70 l8 = 0)) (σ 64 z)) z = 0))) (e_lf _ hs4) dL_areBudgets_187 ?_
        refine q_eq0 (tgt := 215) hx hb q_31B dL_areBudgets_188 (by decide) (fun c9 => ?_) (fun c9 => ?_)
        · skip
          refine lv_iconst (v := nI 0) hx hb dL_areBudgets_215 (by decide) ?_
          refine q_zast hx hb hC.1 hat_al (hA _ hx_al) hS 3 rfl (vp_in_nI (n := (σ 64 z)) (by omega) (by omega)) dL_areBudgets_216 (fun H25 locs hat9 hsz hoq hS => ?_)
          have hat_m := hat_m.kept (hoq _ (by omega))
          have hat_b := hat_b.kept (hoq _ (by omega))
          have hat_kp := hat_kp.kept (hoq _ (by omega))
          have hat_dr := hat_dr.kept (hoq _ (by omega))
          have hat_al : va_at G.1 vwCl (H2.size, .inl (G.2 3, 4, .inl (upd lf (σ 64 z) (nI 0)))) H25 := by rw [show (upd lf (σ 64 z) (nI 0)) = _ from (l_idz0 (by omega))]; exact hat9
          have ho := ho.put hsz hoq hx_al
          refine lv_iinc (v := nI (z + 1)) (lv' := [(11, .int (nI (z + 1))), (9, .int (nI (gn + 0))), (7, .long (lN (bt + (σ 66 z)))), (13, .int (nI (σ 64 z))), (12, .int (nI (σ 69 z))), (6, .ref (H2.size)), (5, .ref (H1.size)), (4, .ref (s.heap.size)), (0, .ref (ad 0 0)), (1, .ref (zm)), (2, .ref (zb)), (3, .int (nI (σ 0 0))), (10, .int (nI 1))]) hx hb dL_areBudgets_217 hl (k := 12) rfl (nI_1 z) (by decide) rfl (fun ls hl => ?_)
          refine lv_goto (tgt := 74) hx hb dL_areBudgets_220 (by decide) ?_
          exact ih_z _ locs ls ⟨ho, hS, (bt + σ 66 z), (by rw [e_bt, qsum]), (gn + 0), (by rw [e_gn, qsum, show qB (σ 69 z = 100) = 0 from qB_f h100]), (upd kf (σ 64 z) (nI (qsum ((fun s8 => qkp σ s8) (σ 64 z)) z + 0))), (l_up4 (F := (fun s8 => qkp σ s8)) e_kf (if_neg (fun y9 => h107 y9.2)) (fun s9 h9 => if_neg (fun y9 => h9 y9.1.symm))), (upd df (σ 64 z) (nI (qsum ((fun s8 l8 => qB (σ 64 l8 = s8 ∧ σ 69 l8 = 100)) (σ 64 z)) z + 0))), (l_up4 (F := (fun s8 l8 => qB (σ 64 l8 = s8 ∧ σ 69 l8 = 100))) e_df (qB_f (fun y9 => h100 y9.2)) (fun s9 h9 => qB_f (fun y9 => h9 y9.1.symm))), (upd lf (σ 64 z) (nI 0)), (l_al4 (F := (fun s8 l8 => qB (σ 64 l8 = s8 ∧ σ 69 l8 = 107 ∧ σ 70 l8 = 0))) e_lf (qB_f (fun y9 => l_qB0 c9 (l_q0 y9))).symm (fun s9 h9 => qB_f (fun y9 => h9 y9.1.symm))), hat_m, hat_b, hat_kp, hat_dr, hat_al, lv_sub hl [5, 6, 7, 8, 9, 10, 11, 12, 2, 1, 0] rfl⟩
        · skip
          refine lv_iload hx hb dL_areBudgets_191 (lv_at hl 3 rfl) ?_
          refine lv_bipush (v := nI 107) hx hb dL_areBudgets_193 (by decide) ?_
          refine q_ne (tgt := 211) hx hb (q31 (hB _ _)) (by decide) dL_areBudgets_195 (by decide) (fun gq27 => ?_) (fun gq27 => (by omega))
          refine lv_iconst (v := nI 1) hx hb dL_areBudgets_211 (by decide) ?_
          refine lv_goto (tgt := 216) hx hb dL_areBudgets_212 (by decide) ?_
          refine q_zast hx hb hC.1 hat_al (hA _ hx_al) hS 3 rfl (vp_in_nI (n := (σ 64 z)) (by omega) (by omega)) dL_areBudgets_216 (fun H26 locs hat9 hsz hoq hS => ?_)
          have hat_m := hat_m.kept (hoq _ (by omega))
          have hat_b := hat_b.kept (hoq _ (by omega))
          have hat_kp := hat_kp.kept (hoq _ (by omega))
          have hat_dr := hat_dr.kept (hoq _ (by omega))
          have hat_al : va_at G.1 vwCl (H2.size, .inl (G.2 3, 4, .inl (upd lf (σ 64 z) (nI 1)))) H26 := by rw [show (upd lf (σ 64 z) (nI 1)) = _ from (l_idz1 (by omega))]; exact hat9
          have ho := ho.put hsz hoq hx_al
          refine lv_iinc (v := nI (z + 1)) (lv' := [(11, .int (nI (z + 1))), (9, .int (nI (gn + 0))), (7, .long (lN (bt + (σ 66 z)))), (13, .int (nI (σ 64 z))), (12, .int (nI (σ 69 z))), (6, .ref (H2.size)), (5, .ref (H1.size)), (4, .ref (s.heap.size)), (0, .ref (ad 0 0)), (1, .ref (zm)), (2, .ref (zb)), (3, .int (nI (σ 0 0))), (10, .int (nI 1))]) hx hb dL_areBudgets_217 hl (k := 12) rfl (nI_1 z) (by decide) rfl (fun ls hl => ?_)
          refine lv_goto (tgt := 74) hx hb dL_areBudgets_220 (by decide) ?_
          exact ih_z _ locs ls ⟨ho, hS, (bt + σ 66 z), (by rw [e_bt, qsum]), (gn + 0), (by rw [e_gn, qsum, show qB (σ 69 z = 100) = 0 from qB_f h100]), (upd kf (σ 64 z) (nI (qsum ((fun s8 => qkp σ s8) (σ 64 z)) z + 0))), (l_up4 (F := (fun s8 => qkp σ s8)) e_kf (if_neg (fun y9 => h107 y9.2)) (fun s9 h9 => if_neg (fun y9 => h9 y9.1.symm))), (upd df (σ 64 z) (nI (qsum ((fun s8 l8 => qB (σ 64 l8 = s8 ∧ σ 69 l8 = 100)) (σ 64 z)) z + 0))), (l_up4 (F := (fun s8 l8 => qB (σ 64 l8 = s8 ∧ σ 69 l8 = 100))) e_df (qB_f (fun y9 => h100 y9.2)) (fun s9 h9 => qB_f (fun y9 => h9 y9.1.symm))), (upd lf (σ 64 z) (nI 1)), (l_al4 (F := (fun s8 l8 => qB (σ 64 l8 = s8 ∧ σ 69 l8 = 107 ∧ σ 70 l8 = 0))) e_lf (qB_t (l_q1 (r_un c9) (qB_f (fun y9 => h107 y9.2.1)))).symm (fun s9 h9 => qB_f (fun y9 => h9 y9.1.symm))), hat_m, hat_b, hat_kp, hat_dr, hat_al, lv_sub hl [5, 6, 7, 8, 9, 10, 11, 12, 2, 1, 0] rfl⟩
