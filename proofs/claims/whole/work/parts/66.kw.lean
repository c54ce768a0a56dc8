set_option maxHeartbeats 4000000 in
set_option maxRecDepth 100000 in
theorem k_addLineK (l : Launch) (G : QG) (es : Nat) (A : Nat → Prop) (σ ad : QSt) (hF : qWF σ) (s0 r0 x1 x2 x3 b0 p0 : Nat) (hs0 : s0 < 4) (hr0 : r0 < 5) (hx1 : x1 < 100) (hx2 : x2 < 100) (hx3 : x3 < 100) (hb0 : 1 ≤ b0 ∧ b0 ≤ 99) (hn0 : σ 0 0 < 200) (h16 : σ 16 0 + 1 < 1073741824) (hr9 : qFst (fun q => σ 97 q = 0 ∧ s0 = σ 96 q ∧ qft (fun k => σ (112 + k) q) (fun k => if k = 0 then x1 else if k = 1 then x2 else x3)) (σ 0 1) (some p0)) (ms : Nat) (hms : σ 0 0 < σ 32 0 ∨ qcap (σ 0 0) (σ 32 0) ≤ ms) (hT : ∀ i, i < (qfLi σ s0 r0 x1 x2 x3 b0 p0) 0 2 → qWF (qfSa (qfLi σ s0 r0 x1 x2 x3 b0 p0) (σ 0 0) i) ∧ qOk (qfCd (qfSa (qfLi σ s0 r0 x1 x2 x3 b0 p0) (σ 0 0) i) i (σ 0 0)) i) (hTn : qWF (qfSa (qfLi σ s0 r0 x1 x2 x3 b0 p0) (σ 0 0) ((qfLi σ s0 r0 x1 x2 x3 b0 p0) 0 2))) (zo : Nat) (zf : Nat → Int64) (hzo : ¬ A zo) : Met l yL_addLine wsL_addLine ({ frames := 10, cells := (3 + 3 * ((qfSa (qfLi σ s0 r0 x1 x2 x3 b0 p0) (σ 0 0) ((qfLi σ s0 r0 x1 x2 x3 b0 p0) 0 2)) 0 3 - (qfLi σ s0 r0 x1 x2 x3 b0 p0) 0 3)), slots := (11 + ms + (10 * ((qfSa (qfLi σ s0 r0 x1 x2 x3 b0 p0) (σ 0 0) ((qfLi σ s0 r0 x1 x2 x3 b0 p0) 0 2)) 0 3 - (qfLi σ s0 r0 x1 x2 x3 b0 p0) 0 3) + 3 * ((qfSa (qfLi σ s0 r0 x1 x2 x3 b0 p0) (σ 0 0) ((qfLi σ s0 r0 x1 x2 x3 b0 p0) 0 2)) 32 3 - (qfLi σ s0 r0 x1 x2 x3 b0 p0) 32 3))), locals := 246 } : Room) (qLg G es A σ ad zo (.inl (G.2 2, 1, .inr (.inl zf))) [.ref (ad 0 0), .int (nI s0), .int (nI r0), .int (nI x1), .int (nI x2), .int (nI x3), .int (nI b0), .ref (zo)]) (qWV (some (.int (nI 0))) (fun H => ∃ ad', qAE σ ad ad' ∧ qLW G es A (qfLs (qfSa (qfLi σ s0 r0 x1 x2 x3 b0 p0) (σ 0 0) ((qfLi σ s0 r0 x1 x2 x3 b0 p0) 0 2)) s0 200).1 ad' H ∧ ∃ zf' : Nat → Int64, va_at G.1 vwCl (zo, .inl (G.2 2, 1, .inr (.inl zf'))) H ∧ zf' 0 = (nI (σ 0 0)).toInt64) (fun q => A q ∨ q = zo)) (3 + 3 * ((qfSa (qfLi σ s0 r0 x1 x2 x3 b0 p0) (σ 0 0) ((qfLi σ s0 r0 x1 x2 x3 b0 p0) 0 2)) 0 3 - (qfLi σ s0 r0 x1 x2 x3 b0 p0) 0 3)) (11 + ms + (10 * ((qfSa (qfLi σ s0 r0 x1 x2 x3 b0 p0) (σ 0 0) ((qfLi σ s0 r0 x1 x2 x3 b0 p0) 0 2)) 0 3 - (qfLi σ s0 r0 x1 x2 x3 b0 p0) 0 3) + 3 * ((qfSa (qfLi σ s0 r0 x1 x2 x3 b0 p0) (σ 0 0) ((qfLi σ s0 r0 x1 x2 x3 b0 p0) 0 2)) 32 3 - (qfLi σ s0 r0 x1 x2 x3 b0 p0) 32 3))) (fun q => A q ∨ q = zo) := by
  refine q_ofWH (cc := cL_addLine) (maxL := 9) (ret := (some .int)) (hh := [(0, 18, 21, 13), (0, 18, 25, 15)]) (by decide) rfl ?_
  intro p e s m args below meth c s₁ B hml htab hv
  obtain ⟨rfl, hC, hW, hZ, hA, hzT, hzN, hat⟩ := hv
  have hx := B.exec
  have hb := B.bytes
  have hr := B.returns
  have hts := atoms_spec (ws := wsL_addLine) B.pre
  have hown : s.vm.findClass RL = some m.cls := findClass_of_methodNamed B.named
  have hlocks := B.notSynchronized
  have hS : va_S (fun q => A q ∨ q = zo) s.heap s.heap [] := va_S.rf
  have hl := lv_entry ([.ref (ad 0 0), .int (nI s0), .int (nI r0), .int (nI x1), .int (nI x2), .int (nI x3), .int (nI b0), .ref (zo)]) (n := 9) (Nat.le_of_ble_eq_true rfl)
  rw [lg_entry_eq]
  generalize (lg_sl ([.ref (ad 0 0), .int (nI s0), .int (nI r0), .int (nI x1), .int (nI x2), .int (nI x3), .int (nI b0), .ref (zo)]) ++ List.replicate (9 - (lg_sl ([.ref (ad 0 0), .int (nI s0), .int (nI r0), .int (nI x1), .int (nI x2), .int (nI x3), .int (nI b0), .ref (zo)])).length) Slot.unset).toArray = ls at hl ⊢
  have hl : lv_has ls 9 [(0, .ref (ad 0 0)), (1, .int (nI s0)), (2, .int (nI r0)), (3, .int (nI x1)), (4, .int (nI x2)), (5, .int (nI x3)), (6, .int (nI b0)), (7, .ref (zo))] := hl
  refine lv_aload hx hb dL_addLine_0 (lv_at hl 7 rfl) ?_
  refine lv_iconst (v := nI 0) hx hb dL_addLine_2 (by decide) ?_
  refine lv_aload_n hx hb dL_addLine_3 rfl (lv_at hl 0 rfl) ?_
  refine lv_iload_n hx hb dL_addLine_4 rfl (lv_at hl 1 rfl) ?_
  refine lv_iload_n hx hb dL_addLine_5 rfl (lv_at hl 2 rfl) ?_
  refine lv_iload_n hx hb dL_addLine_6 rfl (lv_at hl 3 rfl) ?_
  refine lv_iload hx hb dL_addLine_7 (lv_at hl 4 rfl) ?_
  refine lv_iload hx hb dL_addLine_9 (lv_at hl 5 rfl) ?_
  refine lv_iload hx hb dL_addLine_11 (lv_at hl 6 rfl) ?_
  refine q_wv (va_runV (As := [.int (nI s0), .int (nI r0), .int (nI x1), .int (nI x2), .int (nI x3), .int (nI b0)]) (rest := [.int (nI 0), .ref (zo)]) ⟨hx, hb, hml, hown, hts⟩ (m_addLineK l G es A σ ad hF s0 r0 x1 x2 x3 b0 p0 hs0 hr0 hx1 hx2 hx3 hb0 hn0 h16 hr9 ms hms hT hTn) (cwV 6 hts gL_addLine_X7_addLine rfl rfl rfl (by decide +kernel) ⟨Nat.le_of_ble_eq_true rfl, Nat.le_of_ble_eq_true rfl⟩) ⟨qW.blind, qrecv hC (hW.to qLV0) rfl, qW.pre hC hW hZ (va_S.rf (A := A)) (fun _ h => h) hA⟩ rfl rfl hl.1 rfl (lv_room (Nat.le_of_ble_eq_true rfl)) dL_addLine_13 ⟨Nat.le_of_eq (Nat.zero_add _), Nat.le_of_eq (Nat.zero_add _)⟩) hS (fun _ h => Or.inl h) (fun _ h => Or.inl h) (fun H1 locs hP9 hz hk hS => ?_)
  obtain ⟨ad', hAE, hW⟩ := hP9
  have hat9 := hat.kept (hk zo hat.lt hzo)
  refine lv_i2l (v := (nI (σ 0 0)).toInt64) hx hb dL_addLine_16 rfl ?_
  refine q_last hx hb hC.1 hat9 (Or.inr rfl) hS 2 rfl (vp_in_nI (n := 0) (by decide) (by decide)) dL_addLine_17 (fun H2 locs hat2 hsz hoq hS => ?_)
  refine lv_goto (tgt := 29) hx hb dL_addLine_18 (by decide) ?_
  refine lv_iconst (v := nI 0) hx hb dL_addLine_29 (by decide) ?_
  refine W.widen (k := (3 + 3 * ((qfSa (qfLi σ s0 r0 x1 x2 x3 b0 p0) (σ 0 0) ((qfLi σ s0 r0 x1 x2 x3 b0 p0) 0 2)) 0 3 - (qfLi σ s0 r0 x1 x2 x3 b0 p0) 0 3))) (n := (11 + ms + (10 * ((qfSa (qfLi σ s0 r0 x1 x2 x3 b0 p0) (σ 0 0) ((qfLi σ s0 r0 x1 x2 x3 b0 p0) 0 2)) 0 3 - (qfLi σ s0 r0 x1 x2 x3 b0 p0) 0 3) + 3 * ((qfSa (qfLi σ s0 r0 x1 x2 x3 b0 p0) (σ 0 0) ((qfLi σ s0 r0 x1 x2 x3 b0 p0) 0 2)) 32 3 - (qfLi σ s0 r0 x1 x2 x3 b0 p0) 32 3)))) (Nat.le_of_eq (Nat.zero_add _)) (Nat.le_of_eq (Nat.zero_add _)) ?_
  exact W.iret hx hb hr (fun t ht _ => ⟨rfl, by rw [ht]; exact ⟨ad', hAE, hW.out hzo hoq, _, hat2, q_o1 _ _⟩, hS.F ht⟩) hS.2.2 dL_addLine_30
set_option maxHeartbeats 4000000 in
set_option maxRecDepth 100000 in
theorem k_addLineL (l : Launch) (G : QG) (es : Nat) (A : Nat → Prop) (σ ad : QSt) (hF : qWF σ) (s0 r0 x1 x2 x3 b0 : Nat) (hs0 : s0 < 4) (hr0 : r0 < 5) (hx1 : x1 < 100) (hx2 : x2 < 100) (hx3 : x3 < 100) (hb0 : 1 ≤ b0 ∧ b0 ≤ 99) (hn0 : σ 0 0 < 200) (h16 : σ 16 0 + 1 < 1073741824) (hn1 : σ 0 1 < 200) (h161 : σ 16 1 + 1 < 1073741824) (hr9 : qFst (fun q => σ 97 q = 0 ∧ s0 = σ 96 q ∧ qft (fun k => σ (112 + k) q) (fun k => if k = 0 then x1 else if k = 1 then x2 else x3)) (σ 0 1) none) (mL ms : Nat) (hmL : σ 0 1 < σ 32 1 ∨ qcap (σ 0 1) (σ 32 1) ≤ mL) (hms : ((qfLe σ s0 x1 x2 x3) 0 0) < (qfLe σ s0 x1 x2 x3) 32 0 ∨ qcap ((qfLe σ s0 x1 x2 x3) 0 0) ((qfLe σ s0 x1 x2 x3) 32 0) ≤ ms) (hT : ∀ i, i < (qmI (qfLi (qfLe σ s0 x1 x2 x3) s0 r0 x1 x2 x3 b0 (σ 0 1)) (σ 0 1) ((qfLi (qfLe σ s0 x1 x2 x3) s0 r0 x1 x2 x3 b0 (σ 0 1)) 0 1)).1 0 2 → qWF (qfSa (qmI (qfLi (qfLe σ s0 x1 x2 x3) s0 r0 x1 x2 x3 b0 (σ 0 1)) (σ 0 1) ((qfLi (qfLe σ s0 x1 x2 x3) s0 r0 x1 x2 x3 b0 (σ 0 1)) 0 1)).1 ((qfLe σ s0 x1 x2 x3) 0 0) i) ∧ qOk (qfCd (qfSa (qmI (qfLi (qfLe σ s0 x1 x2 x3) s0 r0 x1 x2 x3 b0 (σ 0 1)) (σ 0 1) ((qfLi (qfLe σ s0 x1 x2 x3) s0 r0 x1 x2 x3 b0 (σ 0 1)) 0 1)).1 ((qfLe σ s0 x1 x2 x3) 0 0) i) i ((qfLe σ s0 x1 x2 x3) 0 0)) i) (hTn : qWF (qfSa (qmI (qfLi (qfLe σ s0 x1 x2 x3) s0 r0 x1 x2 x3 b0 (σ 0 1)) (σ 0 1) ((qfLi (qfLe σ s0 x1 x2 x3) s0 r0 x1 x2 x3 b0 (σ 0 1)) 0 1)).1 ((qfLe σ s0 x1 x2 x3) 0 0) ((qmI (qfLi (qfLe σ s0 x1 x2 x3) s0 r0 x1 x2 x3 b0 (σ 0 1)) (σ 0 1) ((qfLi (qfLe σ s0 x1 x2 x3) s0 r0 x1 x2 x3 b0 (σ 0 1)) 0 1)).1 0 2))) (zo : Nat) (zf : Nat → Int64) (hzo : ¬ A zo) : Met l yL_addLine wsL_addLine ({ frames := 10, cells := (6 + 3 * ((qfSa (qmI (qfLi (qfLe σ s0 x1 x2 x3) s0 r0 x1 x2 x3 b0 (σ 0 1)) (σ 0 1) ((qfLi (qfLe σ s0 x1 x2 x3) s0 r0 x1 x2 x3 b0 (σ 0 1)) 0 1)).1 ((qfLe σ s0 x1 x2 x3) 0 0) ((qmI (qfLi (qfLe σ s0 x1 x2 x3) s0 r0 x1 x2 x3 b0 (σ 0 1)) (σ 0 1) ((qfLi (qfLe σ s0 x1 x2 x3) s0 r0 x1 x2 x3 b0 (σ 0 1)) 0 1)).1 0 2)) 0 3 - (qmI (qfLi (qfLe σ s0 x1 x2 x3) s0 r0 x1 x2 x3 b0 (σ 0 1)) (σ 0 1) ((qfLi (qfLe σ s0 x1 x2 x3) s0 r0 x1 x2 x3 b0 (σ 0 1)) 0 1)).1 0 3)), slots := (18 + mL + ms + (10 * ((qfSa (qmI (qfLi (qfLe σ s0 x1 x2 x3) s0 r0 x1 x2 x3 b0 (σ 0 1)) (σ 0 1) ((qfLi (qfLe σ s0 x1 x2 x3) s0 r0 x1 x2 x3 b0 (σ 0 1)) 0 1)).1 ((qfLe σ s0 x1 x2 x3) 0 0) ((qmI (qfLi (qfLe σ s0 x1 x2 x3) s0 r0 x1 x2 x3 b0 (σ 0 1)) (σ 0 1) ((qfLi (qfLe σ s0 x1 x2 x3) s0 r0 x1 x2 x3 b0 (σ 0 1)) 0 1)).1 0 2)) 0 3 - (qmI (qfLi (qfLe σ s0 x1 x2 x3) s0 r0 x1 x2 x3 b0 (σ 0 1)) (σ 0 1) ((qfLi (qfLe σ s0 x1 x2 x3) s0 r0 x1 x2 x3 b0 (σ 0 1)) 0 1)).1 0 3) + 3 * ((qfSa (qmI (qfLi (qfLe σ s0 x1 x2 x3) s0 r0 x1 x2 x3 b0 (σ 0 1)) (σ 0 1) ((qfLi (qfLe σ s0 x1 x2 x3) s0 r0 x1 x2 x3 b0 (σ 0 1)) 0 1)).1 ((qfLe σ s0 x1 x2 x3) 0 0) ((qmI (qfLi (qfLe σ s0 x1 x2 x3) s0 r0 x1 x2 x3 b0 (σ 0 1)) (σ 0 1) ((qfLi (qfLe σ s0 x1 x2 x3) s0 r0 x1 x2 x3 b0 (σ 0 1)) 0 1)).1 0 2)) 32 3 - (qmI (qfLi (qfLe σ s0 x1 x2 x3) s0 r0 x1 x2 x3 b0 (σ 0 1)) (σ 0 1) ((qfLi (qfLe σ s0 x1 x2 x3) s0 r0 x1 x2 x3 b0 (σ 0 1)) 0 1)).1 32 3))), locals := 246 } : Room) (qLg G es A σ ad zo (.inl (G.2 2, 1, .inr (.inl zf))) [.ref (ad 0 0), .int (nI s0), .int (nI r0), .int (nI x1), .int (nI x2), .int (nI x3), .int (nI b0), .ref (zo)]) (qWV (some (.int (nI 0))) (fun H => ∃ ad', qAE σ ad ad' ∧ qLW G es A (qfLs (qfSa (qmI (qfLi (qfLe σ s0 x1 x2 x3) s0 r0 x1 x2 x3 b0 (σ 0 1)) (σ 0 1) ((qfLi (qfLe σ s0 x1 x2 x3) s0 r0 x1 x2 x3 b0 (σ 0 1)) 0 1)).1 ((qfLe σ s0 x1 x2 x3) 0 0) ((qmI (qfLi (qfLe σ s0 x1 x2 x3) s0 r0 x1 x2 x3 b0 (σ 0 1)) (σ 0 1) ((qfLi (qfLe σ s0 x1 x2 x3) s0 r0 x1 x2 x3 b0 (σ 0 1)) 0 1)).1 0 2)) s0 200).1 ad' H ∧ ∃ zf' : Nat → Int64, va_at G.1 vwCl (zo, .inl (G.2 2, 1, .inr (.inl zf'))) H ∧ zf' 0 = (nI (σ 0 0)).toInt64) (fun q => A q ∨ q = zo)) (6 + 3 * ((qfSa (qmI (qfLi (qfLe σ s0 x1 x2 x3) s0 r0 x1 x2 x3 b0 (σ 0 1)) (σ 0 1) ((qfLi (qfLe σ s0 x1 x2 x3) s0 r0 x1 x2 x3 b0 (σ 0 1)) 0 1)).1 ((qfLe σ s0 x1 x2 x3) 0 0) ((qmI (qfLi (qfLe σ s0 x1 x2 x3) s0 r0 x1 x2 x3 b0 (σ 0 1)) (σ 0 1) ((qfLi (qfLe σ s0 x1 x2 x3) s0 r0 x1 x2 x3 b0 (σ 0 1)) 0 1)).1 0 2)) 0 3 - (qmI (qfLi (qfLe σ s0 x1 x2 x3) s0 r0 x1 x2 x3 b0 (σ 0 1)) (σ 0 1) ((qfLi (qfLe σ s0 x1 x2 x3) s0 r0 x1 x2 x3 b0 (σ 0 1)) 0 1)).1 0 3)) (18 + mL + ms + (10 * ((qfSa (qmI (qfLi (qfLe σ s0 x1 x2 x3) s0 r0 x1 x2 x3 b0 (σ 0 1)) (σ 0 1) ((qfLi (qfLe σ s0 x1 x2 x3) s0 r0 x1 x2 x3 b0 (σ 0 1)) 0 1)).1 ((qfLe σ s0 x1 x2 x3) 0 0) ((qmI (qfLi (qfLe σ s0 x1 x2 x3) s0 r0 x1 x2 x3 b0 (σ 0 1)) (σ 0 1) ((qfLi (qfLe σ s0 x1 x2 x3) s0 r0 x1 x2 x3 b0 (σ 0 1)) 0 1)).1 0 2)) 0 3 - (qmI (qfLi (qfLe σ s0 x1 x2 x3) s0 r0 x1 x2 x3 b0 (σ 0 1)) (σ 0 1) ((qfLi (qfLe σ s0 x1 x2 x3) s0 r0 x1 x2 x3 b0 (σ 0 1)) 0 1)).1 0 3) + 3 * ((qfSa (qmI (qfLi (qfLe σ s0 x1 x2 x3) s0 r0 x1 x2 x3 b0 (σ 0 1)) (σ 0 1) ((qfLi (qfLe σ s0 x1 x2 x3) s0 r0 x1 x2 x3 b0 (σ 0 1)) 0 1)).1 ((qfLe σ s0 x1 x2 x3) 0 0) ((qmI (qfLi (qfLe σ s0 x1 x2 x3) s0 r0 x1 x2 x3 b0 (σ 0 1)) (σ 0 1) ((qfLi (qfLe σ s0 x1 x2 x3) s0 r0 x1 x2 x3 b0 (σ 0 1)) 0 1)).1 0 2)) 32 3 - (qmI (qfLi (qfLe σ s0 x1 x2 x3) s0 r0 x1 x2 x3 b0 (σ 0 1)) (σ 0 1) ((qfLi (qfLe σ s0 x1 x2 x3) s0 r0 x1 x2 x3 b0 (σ 0 1)) 0 1)).1 32 3))) (fun q => A q ∨ q = zo) := by
  refine q_ofWH (cc := cL_addLine) (maxL := 9) (ret := (some .int)) (hh := [(0, 18, 21, 13), (0, 18, 25, 15)]) (by decide) rfl ?_
  intro p e s m args below meth c s₁ B hml htab hv
  obtain ⟨rfl, hC, hW, hZ, hA, hzT, hzN, hat⟩ := hv
  have hx := B.exec
  have hb := B.bytes
  have hr := B.returns
  have hts := atoms_spec (ws := wsL_addLine) B.pre
  have hown : s.vm.findClass RL = some m.cls := findClass_of_methodNamed B.named
  have hlocks := B.notSynchronized
  have hS : va_S (fun q => A q ∨ q = zo) s.heap s.heap [] := va_S.rf
  have hl := lv_entry ([.ref (ad 0 0), .int (nI s0), .int (nI r0), .int (nI x1), .int (nI x2), .int (nI x3), .int (nI b0), .ref (zo)]) (n := 9) (Nat.le_of_ble_eq_true rfl)
  rw [lg_entry_eq]
  generalize (lg_sl ([.ref (ad 0 0), .int (nI s0), .int (nI r0), .int (nI x1), .int (nI x2), .int (nI x3), .int (nI b0), .ref (zo)]) ++ List.replicate (9 - (lg_sl ([.ref (ad 0 0), .int (nI s0), .int (nI r0), .int (nI x1), .int (nI x2), .int (nI x3), .int (nI b0), .ref (zo)])).length) Slot.unset).toArray = ls at hl ⊢
  have hl : lv_has ls 9 [(0, .ref (ad 0 0)), (1, .int (nI s0)), (2, .int (nI r0)), (3, .int (nI x1)), (4, .int (nI x2)), (5, .int (nI x3)), (6, .int (nI b0)), (7, .ref (zo))] := hl
  refine lv_aload hx hb dL_addLine_0 (lv_at hl 7 rfl) ?_
  refine lv_iconst (v := nI 0) hx hb dL_addLine_2 (by decide) ?_
  refine lv_aload_n hx hb dL_addLine_3 rfl (lv_at hl 0 rfl) ?_
  refine lv_iload_n hx hb dL_addLine_4 rfl (lv_at hl 1 rfl) ?_
  refine lv_iload_n hx hb dL_addLine_5 rfl (lv_at hl 2 rfl) ?_
  refine lv_iload_n hx hb dL_addLine_6 rfl (lv_at hl 3 rfl) ?_
  refine lv_iload hx hb dL_addLine_7 (lv_at hl 4 rfl) ?_
  refine lv_iload hx hb dL_addLine_9 (lv_at hl 5 rfl) ?_
  refine lv_iload hx hb dL_addLine_11 (lv_at hl 6 rfl) ?_
  refine q_wv (va_runV (As := [.int (nI s0), .int (nI r0), .int (nI x1), .int (nI x2), .int (nI x3), .int (nI b0)]) (rest := [.int (nI 0), .ref (zo)]) ⟨hx, hb, hml, hown, hts⟩ (m_addLineL l G es A σ ad hF s0 r0 x1 x2 x3 b0 hs0 hr0 hx1 hx2 hx3 hb0 hn0 h16 hn1 h161 hr9 mL ms hmL hms hT hTn) (cwV 6 hts gL_addLine_X7_addLine rfl rfl rfl (by decide +kernel) ⟨Nat.le_of_ble_eq_true rfl, Nat.le_of_ble_eq_true rfl⟩) ⟨qW.blind, qrecv hC (hW.to qLV0) rfl, qW.pre hC hW hZ (va_S.rf (A := A)) (fun _ h => h) hA⟩ rfl rfl hl.1 rfl (lv_room (Nat.le_of_ble_eq_true rfl)) dL_addLine_13 ⟨Nat.le_of_eq (Nat.zero_add _), Nat.le_of_eq (Nat.zero_add _)⟩) hS (fun _ h => Or.inl h) (fun _ h => Or.inl h) (fun H1 locs hP9 hz hk hS => ?_)
  obtain ⟨ad', hAE, hW⟩ := hP9
  have hat9 := hat.kept (hk zo hat.lt hzo)
  refine lv_i2l (v := (nI (σ 0 0)).toInt64) hx hb dL_addLine_16 rfl ?_
  refine q_last hx hb hC.1 hat9 (Or.inr rfl) hS 2 rfl (vp_in_nI (n := 0) (by decide) (by decide)) dL_addLine_17 (fun H2 locs hat2 hsz hoq hS => ?_)
  refine lv_goto (tgt := 29) hx hb dL_addLine_18 (by decide) ?_
  refine lv_iconst (v := nI 0) hx hb dL_addLine_29 (by decide) ?_
  refine W.widen (k := (6 + 3 * ((qfSa (qmI (qfLi (qfLe σ s0 x1 x2 x3) s0 r0 x1 x2 x3 b0 (σ 0 1)) (σ 0 1) ((qfLi (qfLe σ s0 x1 x2 x3) s0 r0 x1 x2 x3 b0 (σ 0 1)) 0 1)).1 ((qfLe σ s0 x1 x2 x3) 0 0) ((qmI (qfLi (qfLe σ s0 x1 x2 x3) s0 r0 x1 x2 x3 b0 (σ 0 1)) (σ 0 1) ((qfLi (qfLe σ s0 x1 x2 x3) s0 r0 x1 x2 x3 b0 (σ 0 1)) 0 1)).1 0 2)) 0 3 - (qmI (qfLi (qfLe σ s0 x1 x2 x3) s0 r0 x1 x2 x3 b0 (σ 0 1)) (σ 0 1) ((qfLi (qfLe σ s0 x1 x2 x3) s0 r0 x1 x2 x3 b0 (σ 0 1)) 0 1)).1 0 3))) (n := (18 + mL + ms + (10 * ((qfSa (qmI (qfLi (qfLe σ s0 x1 x2 x3) s0 r0 x1 x2 x3 b0 (σ 0 1)) (σ 0 1) ((qfLi (qfLe σ s0 x1 x2 x3) s0 r0 x1 x2 x3 b0 (σ 0 1)) 0 1)).1 ((qfLe σ s0 x1 x2 x3) 0 0) ((qmI (qfLi (qfLe σ s0 x1 x2 x3) s0 r0 x1 x2 x3 b0 (σ 0 1)) (σ 0 1) ((qfLi (qfLe σ s0 x1 x2 x3) s0 r0 x1 x2 x3 b0 (σ 0 1)) 0 1)).1 0 2)) 0 3 - (qmI (qfLi (qfLe σ s0 x1 x2 x3) s0 r0 x1 x2 x3 b0 (σ 0 1)) (σ 0 1) ((qfLi (qfLe σ s0 x1 x2 x3) s0 r0 x1 x2 x3 b0 (σ 0 1)) 0 1)).1 0 3) + 3 * ((qfSa (qmI (qfLi (qfLe σ s0 x1 x2 x3) s0 r0 x1 x2 x3 b0 (σ 0 1)) (σ 0 1) ((qfLi (qfLe σ s0 x1 x2 x3) s0 r0 x1 x2 x3 b0 (σ 0 1)) 0 1)).1 ((qfLe σ s0 x1 x2 x3) 0 0) ((qmI (qfLi (qfLe σ s0 x1 x2 x3) s0 r0 x1 x2 x3 b0 (σ 0 1)) (σ 0 1) ((qfLi (qfLe σ s0 x1 x2 x3) s0 r0 x1 x2 x3 b0 (σ 0 1)) 0 1)).1 0 2)) 32 3 - (qmI (qfLi (qfLe σ s0 x1 x2 x3) s0 r0 x1 x2 x3 b0 (σ 0 1)) (σ 0 1) ((qfLi (qfLe σ s0 x1 x2 x3) s0 r0 x1 x2 x3 b0 (σ 0 1)) 0 1)).1 32 3)))) (Nat.le_of_eq (Nat.zero_add _)) (Nat.le_of_eq (Nat.zero_add _)) ?_
  exact W.iret hx hb hr (fun t ht _ => ⟨rfl, by rw [ht]; exact ⟨ad', hAE, hW.out hzo hoq, _, hat2, q_o1 _ _⟩, hS.F ht⟩) hS.2.2 dL_addLine_30
set_option maxHeartbeats 4000000 in
set_option maxRecDepth 100000 in
theorem k_stateOf (l : Launch) (G : QG) (es : Nat) (A : Nat → Prop) (σ ad : QSt) (hF : qWF σ) (i : Nat) (hi : i < σ 0 0) (zo : Nat) (zf : Nat → Int64) (hzo : ¬ A zo) : Met l yL_stateOf wsL_stateOf ({ frames := 5, cells := 0, slots := 0, locals := 106 } : Room) (qLg G es A σ ad zo (.inl (G.2 2, 1, .inr (.inl zf))) [.ref (ad 0 0), .int (nI i), .ref (zo)]) (qWV (some (.int (nI 0))) (fun H => qLW G es A σ ad H ∧ ∃ zf' : Nat → Int64, va_at G.1 vwCl (zo, .inl (G.2 2, 1, .inr (.inl zf'))) H ∧ zf' 0 = (nI (σ 69 i)).toInt64) (fun q => A q ∨ q = zo)) 0 0 (fun q => A q ∨ q = zo) := by
  refine q_ofWH (cc := cL_stateOf) (maxL := 4) (ret := (some .int)) (hh := [(0, 9, 12, 21)]) (by decide) rfl ?_
  intro p e s m args below meth c s₁ B hml htab hv
  obtain ⟨rfl, hC, hW, hZ, hA, hzT, hzN, hat⟩ := hv
  have hx := B.exec
  have hb := B.bytes
  have hr := B.returns
  have hts := atoms_spec (ws := wsL_stateOf) B.pre
  have hown : s.vm.findClass RL = some m.cls := findClass_of_methodNamed B.named
  have hlocks := B.notSynchronized
  have hS : va_S (fun q => A q ∨ q = zo) s.heap s.heap [] := va_S.rf
  have hl := lv_entry ([.ref (ad 0 0), .int (nI i), .ref (zo)]) (n := 4) (Nat.le_of_ble_eq_true rfl)
  rw [lg_entry_eq]
  generalize (lg_sl ([.ref (ad 0 0), .int (nI i), .ref (zo)]) ++ List.replicate (4 - (lg_sl ([.ref (ad 0 0), .int (nI i), .ref (zo)])).length) Slot.unset).toArray = ls at hl ⊢
  have hl : lv_has ls 4 [(0, .ref (ad 0 0)), (1, .int (nI i)), (2, .ref (zo))] := hl
  refine lv_aload_n hx hb dL_stateOf_0 rfl (lv_at hl 2 rfl) ?_
  refine lv_iconst (v := nI 0) hx hb dL_stateOf_1 (by decide) ?_
  refine lv_aload_n hx hb dL_stateOf_2 rfl (lv_at hl 0 rfl) ?_
  refine lv_iload_n hx hb dL_stateOf_3 rfl (lv_at hl 1 rfl) ?_
  refine q_v (va_runV (As := [.int (nI i)]) (rest := [.int (nI 0), .ref (zo)]) ⟨hx, hb, hml, hown, hts⟩ (m_stateOf l G es A σ ad hF i hi) (cwV 1 hts gL_stateOf_X7_stateOf rfl rfl rfl (by decide +kernel) ⟨Nat.le_of_ble_eq_true rfl, Nat.le_of_ble_eq_true rfl⟩) ⟨qR.blind, qrecv hC (hW.to qLV0) rfl, qR.pre hC hW⟩ rfl rfl hl.1 rfl (lv_room (Nat.le_of_ble_eq_true rfl)) dL_stateOf_4 ⟨Nat.le_of_ble_eq_true rfl, Nat.le_of_ble_eq_true rfl⟩) hS (fun _ h => h.elim) (fun locs hS => ?_)
  have hat9 := hat
  refine lv_i2l (v := (nI (σ 69 i)).toInt64) hx hb dL_stateOf_7 rfl ?_
  refine q_last hx hb hC.1 hat9 (Or.inr rfl) hS 2 rfl (vp_in_nI (n := 0) (by decide) (by decide)) dL_stateOf_8 (fun H2 locs hat2 hsz hoq hS => ?_)
  refine lv_goto (tgt := 15) hx hb dL_stateOf_9 (by decide) ?_
  refine lv_iconst (v := nI 0) hx hb dL_stateOf_15 (by decide) ?_
  exact W.iret hx hb hr (fun t ht _ => ⟨rfl, by rw [ht]; exact ⟨hW.out hzo hoq, _, hat2, q_o1 _ _⟩, hS.F ht⟩) hS.2.2 dL_stateOf_16
set_option maxHeartbeats 4000000 in
set_option maxRecDepth 100000 in
theorem k_patternOf (l : Launch) (G : QG) (es : Nat) (A : Nat → Prop) (σ ad : QSt) (hF : qWF σ) (i : Nat) (hi : i < σ 0 0) (zo : Nat) (zf : Nat → Int64) (hzo : ¬ A zo) : Met l yL_patternOf wsL_patternOf ({ frames := 5, cells := 0, slots := 0, locals := 106 } : Room) (qLg G es A σ ad zo (.inl (G.2 2, 1, .inr (.inl zf))) [.ref (ad 0 0), .int (nI i), .ref (zo)]) (qWV (some (.int (nI 0))) (fun H => qLW G es A σ ad H ∧ ∃ zf' : Nat → Int64, va_at G.1 vwCl (zo, .inl (G.2 2, 1, .inr (.inl zf'))) H ∧ zf' 0 = (nI (σ 68 i)).toInt64) (fun q => A q ∨ q = zo)) 0 0 (fun q => A q ∨ q = zo) := by
  refine q_ofWH (cc := cL_patternOf) (maxL := 4) (ret := (some .int)) (hh := [(0, 9, 12, 21)]) (by decide) rfl ?_
  intro p e s m args below meth c s₁ B hml htab hv
  obtain ⟨rfl, hC, hW, hZ, hA, hzT, hzN, hat⟩ := hv
  have hx := B.exec
  have hb := B.bytes
  have hr := B.returns
  have hts := atoms_spec (ws := wsL_patternOf) B.pre
  have hown : s.vm.findClass RL = some m.cls := findClass_of_methodNamed B.named
  have hlocks := B.notSynchronized
  have hS : va_S (fun q => A q ∨ q = zo) s.heap s.heap [] := va_S.rf
  have hl := lv_entry ([.ref (ad 0 0), .int (nI i), .ref (zo)]) (n := 4) (Nat.le_of_ble_eq_true rfl)
  rw [lg_entry_eq]
  generalize (lg_sl ([.ref (ad 0 0), .int (nI i), .ref (zo)]) ++ List.replicate (4 - (lg_sl ([.ref (ad 0 0), .int (nI i), .ref (zo)])).length) Slot.unset).toArray = ls at hl ⊢
  have hl : lv_has ls 4 [(0, .ref (ad 0 0)), (1, .int (nI i)), (2, .ref (zo))] := hl
  refine lv_aload_n hx hb dL_patternOf_0 rfl (lv_at hl 2 rfl) ?_
  refine lv_iconst (v := nI 0) hx hb dL_patternOf_1 (by decide) ?_
  refine lv_aload_n hx hb dL_patternOf_2 rfl (lv_at hl 0 rfl) ?_
  refine lv_iload_n hx hb dL_patternOf_3 rfl (lv_at hl 1 rfl) ?_
  refine q_v (va_runV (As := [.int (nI i)]) (rest := [.int (nI 0), .ref (zo)]) ⟨hx, hb, hml, hown, hts⟩ (m_patternOf l G es A σ ad hF i hi) (cwV 1 hts gL_patternOf_X7_patternOf rfl rfl rfl (by decide +kernel) ⟨Nat.le_of_ble_eq_true rfl, Nat.le_of_ble_eq_true rfl⟩) ⟨qR.blind, qrecv hC (hW.to qLV0) rfl, qR.pre hC hW⟩ rfl rfl hl.1 rfl (lv_room (Nat.le_of_ble_eq_true rfl)) dL_patternOf_4 ⟨Nat.le_of_ble_eq_true rfl, Nat.le_of_ble_eq_true rfl⟩) hS (fun _ h => h.elim) (fun locs hS => ?_)
  have hat9 := hat
  refine lv_i2l (v := (nI (σ 68 i)).toInt64) hx hb dL_patternOf_7 rfl ?_
  refine q_last hx hb hC.1 hat9 (Or.inr rfl) hS 2 rfl (vp_in_nI (n := 0) (by decide) (by decide)) dL_patternOf_8 (fun H2 locs hat2 hsz hoq hS => ?_)
  refine lv_goto (tgt := 15) hx hb dL_patternOf_9 (by decide) ?_
  refine lv_iconst (v := nI 0) hx hb dL_patternOf_15 (by decide) ?_
  exact W.iret hx hb hr (fun t ht _ => ⟨rfl, by rw [ht]; exact ⟨hW.out hzo hoq, _, hat2, q_o1 _ _⟩, hS.F ht⟩) hS.2.2 dL_patternOf_16
set_option maxHeartbeats 4000000 in
set_option maxRecDepth 100000 in
theorem k_patterns (l : Launch) (G : QG) (es : Nat) (A : Nat → Prop) (σ ad : QSt) (hF : qWF σ) (s0 : Nat) (hs0 : s0 < 4) (zo : Nat) (zf : Nat → Int64) (hzo : ¬ A zo) : Met l yL_patterns wsL_patterns ({ frames := 4, cells := 0, slots := 0, locals := 88 } : Room) (qLg G es A σ ad zo (.inl (G.2 2, 1, .inr (.inl zf))) [.ref (ad 0 0), .int (nI s0), .ref (zo)]) (qWV (some (.int (nI 0))) (fun H => qLW G es A σ ad H ∧ ∃ zf' : Nat → Int64, va_at G.1 vwCl (zo, .inl (G.2 2, 1, .inr (.inl zf'))) H ∧ zf' 0 = (nI (qsum (fun l => qB (σ 96 l = s0 ∧ σ 97 l = 0)) (σ 0 1))).toInt64) (fun q => A q ∨ q = zo)) 0 0 (fun q => A q ∨ q = zo) := by
  refine q_ofWH (cc := cL_patterns) (maxL := 4) (ret := (some .int)) (hh := [(0, 9, 12, 13)]) (by decide) rfl ?_
  intro p e s m args below meth c s₁ B hml htab hv
  obtain ⟨rfl, hC, hW, hZ, hA, hzT, hzN, hat⟩ := hv
  have hx := B.exec
  have hb := B.bytes
  have hr := B.returns
  have hts := atoms_spec (ws := wsL_patterns) B.pre
  have hown : s.vm.findClass RL = some m.cls := findClass_of_methodNamed B.named
  have hlocks := B.notSynchronized
  have hS : va_S (fun q => A q ∨ q = zo) s.heap s.heap [] := va_S.rf
  have hl := lv_entry ([.ref (ad 0 0), .int (nI s0), .ref (zo)]) (n := 4) (Nat.le_of_ble_eq_true rfl)
  rw [lg_entry_eq]
  generalize (lg_sl ([.ref (ad 0 0), .int (nI s0), .ref (zo)]) ++ List.replicate (4 - (lg_sl ([.ref (ad 0 0), .int (nI s0), .ref (zo)])).length) Slot.unset).toArray = ls at hl ⊢
  have hl : lv_has ls 4 [(0, .ref (ad 0 0)), (1, .int (nI s0)), (2, .ref (zo))] := hl
  refine lv_aload_n hx hb dL_patterns_0 rfl (lv_at hl 2 rfl) ?_
  refine lv_iconst (v := nI 0) hx hb dL_patterns_1 (by decide) ?_
  refine lv_aload_n hx hb dL_patterns_2 rfl (lv_at hl 0 rfl) ?_
  refine lv_iload_n hx hb dL_patterns_3 rfl (lv_at hl 1 rfl) ?_
  refine q_v (va_runV (As := [.int (nI s0)]) (rest := [.int (nI 0), .ref (zo)]) ⟨hx, hb, hml, hown, hts⟩ (m_patterns l G es A σ ad hF s0 hs0) (cwV 1 hts gL_patterns_X7_patterns rfl rfl rfl (by decide +kernel) ⟨Nat.le_of_ble_eq_true rfl, Nat.le_of_ble_eq_true rfl⟩) ⟨qR.blind, qrecv hC (hW.to qLV0) rfl, qR.pre hC hW⟩ rfl rfl hl.1 rfl (lv_room (Nat.le_of_ble_eq_true rfl)) dL_patterns_4 ⟨Nat.le_of_ble_eq_true rfl, Nat.le_of_ble_eq_true rfl⟩) hS (fun _ h => h.elim) (fun locs hS => ?_)
  have hat9 := hat
  refine lv_i2l (v := (nI (qsum (fun l => qB (σ 96 l = s0 ∧ σ 97 l = 0)) (σ 0 1))).toInt64) hx hb dL_patterns_7 rfl ?_
  refine q_last hx hb hC.1 hat9 (Or.inr rfl) hS 2 rfl (vp_in_nI (n := 0) (by decide) (by decide)) dL_patterns_8 (fun H2 locs hat2 hsz hoq hS => ?_)
  refine lv_goto (tgt := 15) hx hb dL_patterns_9 (by decide) ?_
  refine lv_iconst (v := nI 0) hx hb dL_patterns_15 (by decide) ?_
  exact W.iret hx hb hr (fun t ht _ => ⟨rfl, by rw [ht]; exact ⟨hW.out hzo hoq, _, hat2, q_o1 _ _⟩, hS.F ht⟩) hS.2.2 dL_patterns_16
set_option maxHeartbeats 4000000 in
set_option maxRecDepth 100000 in
theorem k_wordAt (l : Launch) (G : QG) (es : Nat) (A : Nat → Prop) (σ ad : QSt) (hF : qWF σ) (p0 k : Nat) (hp : p0 < σ 0 1) (hm : σ 97 p0 = 0) (hk : k < 3) (zo : Nat) (zf : Nat → Int64) (hzo : ¬ A zo) : Met l yL_wordAt wsL_wordAt ({ frames := 5, cells := 0, slots := 0, locals := 109 } : Room) (qLg G es A σ ad zo (.inl (G.2 2, 1, .inr (.inl zf))) [.ref (ad 0 0), .int (nI p0), .int (nI k), .ref (zo)]) (qWV (some (.int (nI 0))) (fun H => qLW G es A σ ad H ∧ ∃ zf' : Nat → Int64, va_at G.1 vwCl (zo, .inl (G.2 2, 1, .inr (.inl zf'))) H ∧ zf' 0 = (nI (σ (112 + k) p0) - 1).toInt64) (fun q => A q ∨ q = zo)) 0 0 (fun q => A q ∨ q = zo) := by
  refine q_ofWH (cc := cL_wordAt) (maxL := 5) (ret := (some .int)) (hh := [(0, 10, 13, 21), (0, 10, 17, 13)]) (by decide) rfl ?_
  intro p e s m args below meth c s₁ B hml htab hv
  obtain ⟨rfl, hC, hW, hZ, hA, hzT, hzN, hat⟩ := hv
  have hx := B.exec
  have hb := B.bytes
  have hr := B.returns
  have hts := atoms_spec (ws := wsL_wordAt) B.pre
  have hown : s.vm.findClass RL = some m.cls := findClass_of_methodNamed B.named
  have hlocks := B.notSynchronized
  have hS : va_S (fun q => A q ∨ q = zo) s.heap s.heap [] := va_S.rf
  have hl := lv_entry ([.ref (ad 0 0), .int (nI p0), .int (nI k), .ref (zo)]) (n := 5) (Nat.le_of_ble_eq_true rfl)
  rw [lg_entry_eq]
  generalize (lg_sl ([.ref (ad 0 0), .int (nI p0), .int (nI k), .ref (zo)]) ++ List.replicate (5 - (lg_sl ([.ref (ad 0 0), .int (nI p0), .int (nI k), .ref (zo)])).length) Slot.unset).toArray = ls at hl ⊢
  have hl : lv_has ls 5 [(0, .ref (ad 0 0)), (1, .int (nI p0)), (2, .int (nI k)), (3, .ref (zo))] := hl
  refine lv_aload_n hx hb dL_wordAt_0 rfl (lv_at hl 3 rfl) ?_
  refine lv_iconst (v := nI 0) hx hb dL_wordAt_1 (by decide) ?_
  refine lv_aload_n hx hb dL_wordAt_2 rfl (lv_at hl 0 rfl) ?_
  refine lv_iload_n hx hb dL_wordAt_3 rfl (lv_at hl 1 rfl) ?_
  refine lv_iload_n hx hb dL_wordAt_4 rfl (lv_at hl 2 rfl) ?_
  refine q_v (va_runV (As := [.int (nI p0), .int (nI k)]) (rest := [.int (nI 0), .ref (zo)]) ⟨hx, hb, hml, hown, hts⟩ (m_wordAt l G es A σ ad hF p0 k hp hm hk) (cwV 2 hts gL_wordAt_X7_wordAt rfl rfl rfl (by decide +kernel) ⟨Nat.le_of_ble_eq_true rfl, Nat.le_of_ble_eq_true rfl⟩) ⟨qR.blind, qrecv hC (hW.to qLV0) rfl, qR.pre hC hW⟩ rfl rfl hl.1 rfl (lv_room (Nat.le_of_ble_eq_true rfl)) dL_wordAt_5 ⟨Nat.le_of_ble_eq_true rfl, Nat.le_of_ble_eq_true rfl⟩) hS (fun _ h => h.elim) (fun locs hS => ?_)
  have hat9 := hat
  refine lv_i2l (v := (nI (σ (112 + k) p0) - 1).toInt64) hx hb dL_wordAt_8 rfl ?_
  refine q_last hx hb hC.1 hat9 (Or.inr rfl) hS 2 rfl (vp_in_nI (n := 0) (by decide) (by decide)) dL_wordAt_9 (fun H2 locs hat2 hsz hoq hS => ?_)
  refine lv_goto (tgt := 21) hx hb dL_wordAt_10 (by decide) ?_
  refine lv_iconst (v := nI 0) hx hb dL_wordAt_21 (by decide) ?_
  exact W.iret hx hb hr (fun t ht _ => ⟨rfl, by rw [ht]; exact ⟨hW.out hzo hoq, _, hat2, q_o1 _ _⟩, hS.F ht⟩) hS.2.2 dL_wordAt_22
set_option maxHeartbeats 4000000 in
set_option maxRecDepth 100000 in
theorem k_linesOf (l : Launch) (G : QG) (es : Nat) (A : Nat → Prop) (σ ad : QSt) (hF : qWF σ) (p0 : Nat) (hp : p0 < σ 0 1) (hm : σ 97 p0 = 0) (zo : Nat) (zf : Nat → Int64) (hzo : ¬ A zo) : Met l yL_linesOf wsL_linesOf ({ frames := 5, cells := 0, slots := 0, locals := 110 } : Room) (qLg G es A σ ad zo (.inl (G.2 2, 1, .inr (.inl zf))) [.ref (ad 0 0), .int (nI p0), .ref (zo)]) (qWV (some (.int (nI 0))) (fun H => qLW G es A σ ad H ∧ ∃ zf' : Nat → Int64, va_at G.1 vwCl (zo, .inl (G.2 2, 1, .inr (.inl zf'))) H ∧ zf' 0 = (nI (qsum (fun l => qB (σ 68 l = p0)) (σ 0 0))).toInt64) (fun q => A q ∨ q = zo)) 0 0 (fun q => A q ∨ q = zo) := by
  refine q_ofWH (cc := cL_linesOf) (maxL := 4) (ret := (some .int)) (hh := [(0, 9, 12, 21)]) (by decide) rfl ?_
  intro p e s m args below meth c s₁ B hml htab hv
  obtain ⟨rfl, hC, hW, hZ, hA, hzT, hzN, hat⟩ := hv
  have hx := B.exec
  have hb := B.bytes
  have hr := B.returns
  have hts := atoms_spec (ws := wsL_linesOf) B.pre
  have hown : s.vm.findClass RL = some m.cls := findClass_of_methodNamed B.named
  have hlocks := B.notSynchronized
  have hS : va_S (fun q => A q ∨ q = zo) s.heap s.heap [] := va_S.rf
  have hl := lv_entry ([.ref (ad 0 0), .int (nI p0), .ref (zo)]) (n := 4) (Nat.le_of_ble_eq_true rfl)
  rw [lg_entry_eq]
  generalize (lg_sl ([.ref (ad 0 0), .int (nI p0), .ref (zo)]) ++ List.replicate (4 - (lg_sl ([.ref (ad 0 0), .int (nI p0), .ref (zo)])).length) Slot.unset).toArray = ls at hl ⊢
  have hl : lv_has ls 4 [(0, .ref (ad 0 0)), (1, .int (nI p0)), (2, .ref (zo))] := hl
  refine lv_aload_n hx hb dL_linesOf_0 rfl (lv_at hl 2 rfl) ?_
  refine lv_iconst (v := nI 0) hx hb dL_linesOf_1 (by decide) ?_
  refine lv_aload_n hx hb dL_linesOf_2 rfl (lv_at hl 0 rfl) ?_
  refine lv_iload_n hx hb dL_linesOf_3 rfl (lv_at hl 1 rfl) ?_
  refine q_v (va_runV (As := [.int (nI p0)]) (rest := [.int (nI 0), .ref (zo)]) ⟨hx, hb, hml, hown, hts⟩ (m_linesOf l G es A σ ad hF p0 hp hm) (cwV 1 hts gL_linesOf_X7_linesOf rfl rfl rfl (by decide +kernel) ⟨Nat.le_of_ble_eq_true rfl, Nat.le_of_ble_eq_true rfl⟩) ⟨qR.blind, qrecv hC (hW.to qLV0) rfl, qR.pre hC hW⟩ rfl rfl hl.1 rfl (lv_room (Nat.le_of_ble_eq_true rfl)) dL_linesOf_4 ⟨Nat.le_of_ble_eq_true rfl, Nat.le_of_ble_eq_true rfl⟩) hS (fun _ h => h.elim) (fun locs hS => ?_)
  have hat9 := hat
  refine lv_i2l (v := (nI (qsum (fun l => qB (σ 68 l = p0)) (σ 0 0))).toInt64) hx hb dL_linesOf_7 rfl ?_
  refine q_last hx hb hC.1 hat9 (Or.inr rfl) hS 2 rfl (vp_in_nI (n := 0) (by decide) (by decide)) dL_linesOf_8 (fun H2 locs hat2 hsz hoq hS => ?_)
  refine lv_goto (tgt := 15) hx hb dL_linesOf_9 (by decide) ?_
  refine lv_iconst (v := nI 0) hx hb dL_linesOf_15 (by decide) ?_
  exact W.iret hx hb hr (fun t ht _ => ⟨rfl, by rw [ht]; exact ⟨hW.out hzo hoq, _, hat2, q_o1 _ _⟩, hS.F ht⟩) hS.2.2 dL_linesOf_16
set_option maxHeartbeats 4000000 in
set_option maxRecDepth 100000 in
theorem k_values (l : Launch) (G : QG) (es : Nat) (A : Nat → Prop) (σ ad : QSt) (hF : qWF σ) (p0 k : Nat) (hp : p0 < σ 0 1) (hm : σ 97 p0 = 0) (hk : k < 3) (zo : Nat) (zf : Nat → Int64) (hzo : ¬ A zo) : Met l yL_values wsL_values ({ frames := 5, cells := 0, slots := 0, locals := 116 } : Room) (qLg G es A σ ad zo (.inl (G.2 2, 1, .inr (.inl zf))) [.ref (ad 0 0), .int (nI p0), .int (nI k), .ref (zo)]) (qWV (some (.int (nI 0))) (fun H => qLW G es A σ ad H ∧ ∃ zf' : Nat → Int64, va_at G.1 vwCl (zo, .inl (G.2 2, 1, .inr (.inl zf'))) H ∧ zf' 0 = (nI (qsum (qVF σ p0 k (σ 0 0)) 100)).toInt64) (fun q => A q ∨ q = zo)) 0 0 (fun q => A q ∨ q = zo) := by
  refine q_ofWH (cc := cL_values) (maxL := 5) (ret := (some .int)) (hh := [(0, 10, 13, 21), (0, 10, 17, 13)]) (by decide) rfl ?_
  intro p e s m args below meth c s₁ B hml htab hv
  obtain ⟨rfl, hC, hW, hZ, hA, hzT, hzN, hat⟩ := hv
  have hx := B.exec
  have hb := B.bytes
  have hr := B.returns
  have hts := atoms_spec (ws := wsL_values) B.pre
  have hown : s.vm.findClass RL = some m.cls := findClass_of_methodNamed B.named
  have hlocks := B.notSynchronized
  have hS : va_S (fun q => A q ∨ q = zo) s.heap s.heap [] := va_S.rf
  have hl := lv_entry ([.ref (ad 0 0), .int (nI p0), .int (nI k), .ref (zo)]) (n := 5) (Nat.le_of_ble_eq_true rfl)
  rw [lg_entry_eq]
  generalize (lg_sl ([.ref (ad 0 0), .int (nI p0), .int (nI k), .ref (zo)]) ++ List.replicate (5 - (lg_sl ([.ref (ad 0 0), .int (nI p0), .int (nI k), .ref (zo)])).length) Slot.unset).toArray = ls at hl ⊢
  have hl : lv_has ls 5 [(0, .ref (ad 0 0)), (1, .int (nI p0)), (2, .int (nI k)), (3, .ref (zo))] := hl
  refine lv_aload_n hx hb dL_values_0 rfl (lv_at hl 3 rfl) ?_
  refine lv_iconst (v := nI 0) hx hb dL_values_1 (by decide) ?_
  refine lv_aload_n hx hb dL_values_2 rfl (lv_at hl 0 rfl) ?_
  refine lv_iload_n hx hb dL_values_3 rfl (lv_at hl 1 rfl) ?_
  refine lv_iload_n hx hb dL_values_4 rfl (lv_at hl 2 rfl) ?_
  refine q_v (va_runV (As := [.int (nI p0), .int (nI k)]) (rest := [.int (nI 0), .ref (zo)]) ⟨hx, hb, hml, hown, hts⟩ (m_values l G es A σ ad hF p0 k hp hm hk) (cwV 2 hts gL_values_X7_values rfl rfl rfl (by decide +kernel) ⟨Nat.le_of_ble_eq_true rfl, Nat.le_of_ble_eq_true rfl⟩) ⟨qR.blind, qrecv hC (hW.to qLV0) rfl, qR.pre hC hW⟩ rfl rfl hl.1 rfl (lv_room (Nat.le_of_ble_eq_true rfl)) dL_values_5 ⟨Nat.le_of_ble_eq_true rfl, Nat.le_of_ble_eq_true rfl⟩) hS (fun _ h => h.elim) (fun locs hS => ?_)
  have hat9 := hat
  refine lv_i2l (v := (nI (qsum (qVF σ p0 k (σ 0 0)) 100)).toInt64) hx hb dL_values_8 rfl ?_
  refine q_last hx hb hC.1 hat9 (Or.inr rfl) hS 2 rfl (vp_in_nI (n := 0) (by decide) (by decide)) dL_values_9 (fun H2 locs hat2 hsz hoq hS => ?_)
  refine lv_goto (tgt := 21) hx hb dL_values_10 (by decide) ?_
  refine lv_iconst (v := nI 0) hx hb dL_values_21 (by decide) ?_
  exact W.iret hx hb hr (fun t ht _ => ⟨rfl, by rw [ht]; exact ⟨hW.out hzo hoq, _, hat2, q_o1 _ _⟩, hS.F ht⟩) hS.2.2 dL_values_22
set_option maxHeartbeats 4000000 in
set_option maxRecDepth 100000 in
theorem k_setBudget (l : Launch) (G : QG) (es : Nat) (A : Nat → Prop) (σ ad : QSt) (hF : qWF σ) (s0 b0 : Nat) (hs0 : s0 < 4) (hb0 : b0 ≤ 9999) (zo : Nat) (zf : Nat → Int64) (hzo : ¬ A zo) : Met l yL_setBudget wsL_setBudget ({ frames := 6, cells := 0, slots := 0, locals := 134 } : Room) (qLg G es A σ ad zo (.inl (G.2 2, 1, .inr (.inl zf))) [.ref (ad 0 0), .int (nI s0), .int (nI b0), .ref (zo)]) (qWV (some (.int (nI 0))) (fun H => qLW G es A (qfLs (qup σ 48 s0 b0) s0 200).1 ad H ∧ ∃ zf' : Nat → Int64, va_at G.1 vwCl (zo, .inl (G.2 2, 1, .inr (.inl zf'))) H ∧ zf' 0 = (nI (qfLs (qup σ 48 s0 b0) s0 200).2).toInt64) (fun q => A q ∨ q = zo)) 0 0 (fun q => A q ∨ q = zo) := by
  refine q_ofWH (cc := cL_setBudget) (maxL := 5) (ret := (some .int)) (hh := [(0, 10, 13, 13)]) (by decide) rfl ?_
  intro p e s m args below meth c s₁ B hml htab hv
  obtain ⟨rfl, hC, hW, hZ, hA, hzT, hzN, hat⟩ := hv
  have hx := B.exec
  have hb := B.bytes
  have hr := B.returns
  have hts := atoms_spec (ws := wsL_setBudget) B.pre
  have hown : s.vm.findClass RL = some m.cls := findClass_of_methodNamed B.named
  have hlocks := B.notSynchronized
  have hS : va_S (fun q => A q ∨ q = zo) s.heap s.heap [] := va_S.rf
  have hl := lv_entry ([.ref (ad 0 0), .int (nI s0), .int (nI b0), .ref (zo)]) (n := 5) (Nat.le_of_ble_eq_true rfl)
  rw [lg_entry_eq]
  generalize (lg_sl ([.ref (ad 0 0), .int (nI s0), .int (nI b0), .ref (zo)]) ++ List.replicate (5 - (lg_sl ([.ref (ad 0 0), .int (nI s0), .int (nI b0), .ref (zo)])).length) Slot.unset).toArray = ls at hl ⊢
  have hl : lv_has ls 5 [(0, .ref (ad 0 0)), (1, .int (nI s0)), (2, .int (nI b0)), (3, .ref (zo))] := hl
  refine lv_aload_n hx hb dL_setBudget_0 rfl (lv_at hl 3 rfl) ?_
  refine lv_iconst (v := nI 0) hx hb dL_setBudget_1 (by decide) ?_
  refine lv_aload_n hx hb dL_setBudget_2 rfl (lv_at hl 0 rfl) ?_
  refine lv_iload_n hx hb dL_setBudget_3 rfl (lv_at hl 1 rfl) ?_
  refine lv_iload_n hx hb dL_setBudget_4 rfl (lv_at hl 2 rfl) ?_
  refine q_wv (va_runV (As := [.int (nI s0), .int (nI b0)]) (rest := [.int (nI 0), .ref (zo)]) ⟨hx, hb, hml, hown, hts⟩ (m_setBudget l G es A σ ad hF s0 b0 hs0 hb0) (cwV 2 hts gL_setBudget_X7_setBudget rfl rfl rfl (by decide +kernel) ⟨Nat.le_of_ble_eq_true rfl, Nat.le_of_ble_eq_true rfl⟩) ⟨qW.blind, qrecv hC (hW.to qLV0) rfl, qW.pre hC hW hZ (va_S.rf (A := A)) (fun _ h => h) hA⟩ rfl rfl hl.1 rfl (lv_room (Nat.le_of_ble_eq_true rfl)) dL_setBudget_5 ⟨Nat.le_of_eq (Nat.zero_add _), Nat.le_of_eq (Nat.zero_add _)⟩) hS (fun _ h => Or.inl h) (fun _ h => Or.inl h) (fun H1 locs hP9 hz hk hS => ?_)
  have hW := hP9
  have hat9 := hat.kept (hk zo hat.lt hzo)
  refine lv_i2l (v := (nI (qfLs (qup σ 48 s0 b0) s0 200).2).toInt64) hx hb dL_setBudget_8 rfl ?_
  refine q_last hx hb hC.1 hat9 (Or.inr rfl) hS 2 rfl (vp_in_nI (n := 0) (by decide) (by decide)) dL_setBudget_9 (fun H2 locs hat2 hsz hoq hS => ?_)
  refine lv_goto (tgt := 17) hx hb dL_setBudget_10 (by decide) ?_
  refine lv_iconst (v := nI 0) hx hb dL_setBudget_17 (by decide) ?_
  exact W.iret hx hb hr (fun t ht _ => ⟨rfl, by rw [ht]; exact ⟨hW.out hzo hoq, _, hat2, q_o1 _ _⟩, hS.F ht⟩) hS.2.2 dL_setBudget_18
set_option maxHeartbeats 4000000 in
set_option maxRecDepth 100000 in
theorem k_kept (l : Launch) (G : QG) (es : Nat) (A : Nat → Prop) (σ ad : QSt) (hF : qWF σ) (s0 : Nat) (hs0 : s0 < 4) (zo : Nat) (zf : Nat → Int64) (hzo : ¬ A zo) : Met l yL_kept wsL_kept ({ frames := 5, cells := 0, slots := 0, locals := 109 } : Room) (qLg G es A σ ad zo (.inl (G.2 2, 1, .inr (.inl zf))) [.ref (ad 0 0), .int (nI s0), .ref (zo)]) (qWV (some (.int (nI 0))) (fun H => qLW G es A σ ad H ∧ ∃ zf' : Nat → Int64, va_at G.1 vwCl (zo, .inl (G.2 2, 1, .inr (.inl zf'))) H ∧ zf' 0 = (nI (qkept σ s0)).toInt64) (fun q => A q ∨ q = zo)) 0 0 (fun q => A q ∨ q = zo) := by
  refine q_ofWH (cc := cL_kept) (maxL := 4) (ret := (some .int)) (hh := [(0, 9, 12, 13)]) (by decide) rfl ?_
  intro p e s m args below meth c s₁ B hml htab hv
  obtain ⟨rfl, hC, hW, hZ, hA, hzT, hzN, hat⟩ := hv
  have hx := B.exec
  have hb := B.bytes
  have hr := B.returns
  have hts := atoms_spec (ws := wsL_kept) B.pre
  have hown : s.vm.findClass RL = some m.cls := findClass_of_methodNamed B.named
  have hlocks := B.notSynchronized
  have hS : va_S (fun q => A q ∨ q = zo) s.heap s.heap [] := va_S.rf
  have hl := lv_entry ([.ref (ad 0 0), .int (nI s0), .ref (zo)]) (n := 4) (Nat.le_of_ble_eq_true rfl)
  rw [lg_entry_eq]
  generalize (lg_sl ([.ref (ad 0 0), .int (nI s0), .ref (zo)]) ++ List.replicate (4 - (lg_sl ([.ref (ad 0 0), .int (nI s0), .ref (zo)])).length) Slot.unset).toArray = ls at hl ⊢
  have hl : lv_has ls 4 [(0, .ref (ad 0 0)), (1, .int (nI s0)), (2, .ref (zo))] := hl
  refine lv_aload_n hx hb dL_kept_0 rfl (lv_at hl 2 rfl) ?_
  refine lv_iconst (v := nI 0) hx hb dL_kept_1 (by decide) ?_
  refine lv_aload_n hx hb dL_kept_2 rfl (lv_at hl 0 rfl) ?_
  refine lv_iload_n hx hb dL_kept_3 rfl (lv_at hl 1 rfl) ?_
  refine q_v (va_runV (As := [.int (nI s0)]) (rest := [.int (nI 0), .ref (zo)]) ⟨hx, hb, hml, hown, hts⟩ (m_kept l G es A σ ad hF s0 hs0) (cwV 1 hts gL_kept_X7_kept rfl rfl rfl (by decide +kernel) ⟨Nat.le_of_ble_eq_true rfl, Nat.le_of_ble_eq_true rfl⟩) ⟨qR.blind, qrecv hC (hW.to qLV0) rfl, qR.pre hC hW⟩ rfl rfl hl.1 rfl (lv_room (Nat.le_of_ble_eq_true rfl)) dL_kept_4 ⟨Nat.le_of_ble_eq_true rfl, Nat.le_of_ble_eq_true rfl⟩) hS (fun _ h => h.elim) (fun locs hS => ?_)
  have hat9 := hat
  refine lv_i2l (v := (nI (qkept σ s0)).toInt64) hx hb dL_kept_7 rfl ?_
  refine q_last hx hb hC.1 hat9 (Or.inr rfl) hS 2 rfl (vp_in_nI (n := 0) (by decide) (by decide)) dL_kept_8 (fun H2 locs hat2 hsz hoq hS => ?_)
  refine lv_goto (tgt := 15) hx hb dL_kept_9 (by decide) ?_
  refine lv_iconst (v := nI 0) hx hb dL_kept_15 (by decide) ?_
  exact W.iret hx hb hr (fun t ht _ => ⟨rfl, by rw [ht]; exact ⟨hW.out hzo hoq, _, hat2, q_o1 _ _⟩, hS.F ht⟩) hS.2.2 dL_kept_16
set_option maxHeartbeats 4000000 in
set_option maxRecDepth 100000 in
theorem k_dropped (l : Launch) (G : QG) (es : Nat) (A : Nat → Prop) (σ ad : QSt) (hF : qWF σ) (s0 : Nat) (hs0 : s0 < 4) (zo : Nat) (zf : Nat → Int64) (hzo : ¬ A zo) : Met l yL_dropped wsL_dropped ({ frames := 4, cells := 0, slots := 0, locals := 88 } : Room) (qLg G es A σ ad zo (.inl (G.2 2, 1, .inr (.inl zf))) [.ref (ad 0 0), .int (nI s0), .ref (zo)]) (qWV (some (.int (nI 0))) (fun H => qLW G es A σ ad H ∧ ∃ zf' : Nat → Int64, va_at G.1 vwCl (zo, .inl (G.2 2, 1, .inr (.inl zf'))) H ∧ zf' 0 = (nI (qsum (fun l => qB (σ 64 l = s0 ∧ σ 69 l = 100)) (σ 0 0))).toInt64) (fun q => A q ∨ q = zo)) 0 0 (fun q => A q ∨ q = zo) := by
  refine q_ofWH (cc := cL_dropped) (maxL := 4) (ret := (some .int)) (hh := [(0, 9, 12, 13)]) (by decide) rfl ?_
  intro p e s m args below meth c s₁ B hml htab hv
  obtain ⟨rfl, hC, hW, hZ, hA, hzT, hzN, hat⟩ := hv
  have hx := B.exec
  have hb := B.bytes
  have hr := B.returns
  have hts := atoms_spec (ws := wsL_dropped) B.pre
  have hown : s.vm.findClass RL = some m.cls := findClass_of_methodNamed B.named
  have hlocks := B.notSynchronized
  have hS : va_S (fun q => A q ∨ q = zo) s.heap s.heap [] := va_S.rf
  have hl := lv_entry ([.ref (ad 0 0), .int (nI s0), .ref (zo)]) (n := 4) (Nat.le_of_ble_eq_true rfl)
  rw [lg_entry_eq]
  generalize (lg_sl ([.ref (ad 0 0), .int (nI s0), .ref (zo)]) ++ List.replicate (4 - (lg_sl ([.ref (ad 0 0), .int (nI s0), .ref (zo)])).length) Slot.unset).toArray = ls at hl ⊢
  have hl : lv_has ls 4 [(0, .ref (ad 0 0)), (1, .int (nI s0)), (2, .ref (zo))] := hl
  refine lv_aload_n hx hb dL_dropped_0 rfl (lv_at hl 2 rfl) ?_
  refine lv_iconst (v := nI 0) hx hb dL_dropped_1 (by decide) ?_
  refine lv_aload_n hx hb dL_dropped_2 rfl (lv_at hl 0 rfl) ?_
  refine lv_iload_n hx hb dL_dropped_3 rfl (lv_at hl 1 rfl) ?_
  refine q_v (va_runV (As := [.int (nI s0)]) (rest := [.int (nI 0), .ref (zo)]) ⟨hx, hb, hml, hown, hts⟩ (m_dropped l G es A σ ad hF s0 hs0) (cwV 1 hts gL_dropped_X7_dropped rfl rfl rfl (by decide +kernel) ⟨Nat.le_of_ble_eq_true rfl, Nat.le_of_ble_eq_true rfl⟩) ⟨qR.blind, qrecv hC (hW.to qLV0) rfl, qR.pre hC hW⟩ rfl rfl hl.1 rfl (lv_room (Nat.le_of_ble_eq_true rfl)) dL_dropped_4 ⟨Nat.le_of_ble_eq_true rfl, Nat.le_of_ble_eq_true rfl⟩) hS (fun _ h => h.elim) (fun locs hS => ?_)
  have hat9 := hat
  refine lv_i2l (v := (nI (qsum (fun l => qB (σ 64 l = s0 ∧ σ 69 l = 100)) (σ 0 0))).toInt64) hx hb dL_dropped_7 rfl ?_
  refine q_last hx hb hC.1 hat9 (Or.inr rfl) hS 2 rfl (vp_in_nI (n := 0) (by decide) (by decide)) dL_dropped_8 (fun H2 locs hat2 hsz hoq hS => ?_)
  refine lv_goto (tgt := 15) hx hb dL_dropped_9 (by decide) ?_
  refine lv_iconst (v := nI 0) hx hb dL_dropped_15 (by decide) ?_
  exact W.iret hx hb hr (fun t ht _ => ⟨rfl, by rw [ht]; exact ⟨hW.out hzo hoq, _, hat2, q_o1 _ _⟩, hS.F ht⟩) hS.2.2 dL_dropped_16
set_option maxHeartbeats 4000000 in
set_option maxRecDepth 100000 in
theorem k_archive (l : Launch) (G : QG) (es : Nat) (A : Nat → Prop) (σ ad : QSt) (hF : qWF σ) (i : Nat) (hi : i < σ 0 0) (hk9 : σ 69 i = 107) (zo : Nat) (zf : Nat → Int64) (hzo : ¬ A zo) : Met l yL_archive wsL_archive ({ frames := 5, cells := 0, slots := 0, locals := 110 } : Room) (qLg G es A σ ad zo (.inl (G.2 2, 1, .inr (.inl zf))) [.ref (ad 0 0), .int (nI i), .ref (zo)]) (qWV (some (.int (nI 0))) (fun H => qLW G es A (qup σ 69 i 97) ad H ∧ ∃ zf' : Nat → Int64, va_at G.1 vwCl (zo, .inl (G.2 2, 1, .inr (.inl zf'))) H ∧ zf' 0 = (nI (qkept (qup σ 69 i 97) (σ 64 i))).toInt64) (fun q => A q ∨ q = zo)) 0 0 (fun q => A q ∨ q = zo) := by
  refine q_ofWH (cc := cL_archive) (maxL := 4) (ret := (some .int)) (hh := [(0, 9, 12, 21), (0, 9, 15, 15)]) (by decide) rfl ?_
  intro p e s m args below meth c s₁ B hml htab hv
  obtain ⟨rfl, hC, hW, hZ, hA, hzT, hzN, hat⟩ := hv
  have hx := B.exec
  have hb := B.bytes
  have hr := B.returns
  have hts := atoms_spec (ws := wsL_archive) B.pre
  have hown : s.vm.findClass RL = some m.cls := findClass_of_methodNamed B.named
  have hlocks := B.notSynchronized
  have hS : va_S (fun q => A q ∨ q = zo) s.heap s.heap [] := va_S.rf
  have hl := lv_entry ([.ref (ad 0 0), .int (nI i), .ref (zo)]) (n := 4) (Nat.le_of_ble_eq_true rfl)
  rw [lg_entry_eq]
  generalize (lg_sl ([.ref (ad 0 0), .int (nI i), .ref (zo)]) ++ List.replicate (4 - (lg_sl ([.ref (ad 0 0), .int (nI i), .ref (zo)])).length) Slot.unset).toArray = ls at hl ⊢
  have hl : lv_has ls 4 [(0, .ref (ad 0 0)), (1, .int (nI i)), (2, .ref (zo))] := hl
  refine lv_aload_n hx hb dL_archive_0 rfl (lv_at hl 2 rfl) ?_
  refine lv_iconst (v := nI 0) hx hb dL_archive_1 (by decide) ?_
  refine lv_aload_n hx hb dL_archive_2 rfl (lv_at hl 0 rfl) ?_
  refine lv_iload_n hx hb dL_archive_3 rfl (lv_at hl 1 rfl) ?_
  refine q_wv (va_runV (As := [.int (nI i)]) (rest := [.int (nI 0), .ref (zo)]) ⟨hx, hb, hml, hown, hts⟩ (m_archive l G es A σ ad hF i hi hk9) (cwV 1 hts gL_archive_X7_archive rfl rfl rfl (by decide +kernel) ⟨Nat.le_of_ble_eq_true rfl, Nat.le_of_ble_eq_true rfl⟩) ⟨qW.blind, qrecv hC (hW.to qLV0) rfl, qW.pre hC hW hZ (va_S.rf (A := A)) (fun _ h => h) hA⟩ rfl rfl hl.1 rfl (lv_room (Nat.le_of_ble_eq_true rfl)) dL_archive_4 ⟨Nat.le_of_eq (Nat.zero_add _), Nat.le_of_eq (Nat.zero_add _)⟩) hS (fun _ h => Or.inl h) (fun _ h => Or.inl h) (fun H1 locs hP9 hz hk hS => ?_)
  have hW := hP9
  have hat9 := hat.kept (hk zo hat.lt hzo)
  refine lv_i2l (v := (nI (qkept (qup σ 69 i 97) (σ 64 i))).toInt64) hx hb dL_archive_7 rfl ?_
  refine q_last hx hb hC.1 hat9 (Or.inr rfl) hS 2 rfl (vp_in_nI (n := 0) (by decide) (by decide)) dL_archive_8 (fun H2 locs hat2 hsz hoq hS => ?_)
  refine lv_goto (tgt := 18) hx hb dL_archive_9 (by decide) ?_
  refine lv_iconst (v := nI 0) hx hb dL_archive_18 (by decide) ?_
  exact W.iret hx hb hr (fun t ht _ => ⟨rfl, by rw [ht]; exact ⟨hW.out hzo hoq, _, hat2, q_o1 _ _⟩, hS.F ht⟩) hS.2.2 dL_archive_19
set_option maxHeartbeats 4000000 in
set_option maxRecDepth 100000 in
theorem k_request (l : Launch) (G : QG) (es : Nat) (A : Nat → Prop) (σ ad : QSt) (hF : qWF σ) (s0 r0 : Nat) (hs0 : s0 < 4) (hr0 : r0 < 5) (hn4 : σ 0 4 < 20) (ms : Nat) (hms : σ 0 4 < σ 32 4 ∨ qcap (σ 0 4) (σ 32 4) ≤ ms) (zo : Nat) (zf : Nat → Int64) (hzo : ¬ A zo) : Met l yL_request wsL_request ({ frames := 8, cells := 4, slots := (12 + ms), locals := 195 } : Room) (qLg G es A σ ad zo (.inl (G.2 2, 1, .inr (.inl zf))) [.ref (ad 0 0), .int (nI s0), .int (nI r0), .ref (zo)]) (qWV (some (.int (nI 0))) (fun H => ∃ ad', qAE σ ad ad' ∧ qLW G es A (qfRq σ s0 r0) ad' H ∧ ∃ zf' : Nat → Int64, va_at G.1 vwCl (zo, .inl (G.2 2, 1, .inr (.inl zf'))) H ∧ zf' 0 = (nI (σ 0 4)).toInt64) (fun q => A q ∨ q = zo)) 4 (12 + ms) (fun q => A q ∨ q = zo) := by
  refine q_ofWH (cc := cL_request) (maxL := 5) (ret := (some .int)) (hh := [(0, 10, 13, 13), (0, 10, 17, 15)]) (by decide) rfl ?_
  intro p e s m args below meth c s₁ B hml htab hv
  obtain ⟨rfl, hC, hW, hZ, hA, hzT, hzN, hat⟩ := hv
  have hx := B.exec
  have hb := B.bytes
  have hr := B.returns
  have hts := atoms_spec (ws := wsL_request) B.pre
  have hown : s.vm.findClass RL = some m.cls := findClass_of_methodNamed B.named
  have hlocks := B.notSynchronized
  have hS : va_S (fun q => A q ∨ q = zo) s.heap s.heap [] := va_S.rf
  have hl := lv_entry ([.ref (ad 0 0), .int (nI s0), .int (nI r0), .ref (zo)]) (n := 5) (Nat.le_of_ble_eq_true rfl)
  rw [lg_entry_eq]
  generalize (lg_sl ([.ref (ad 0 0), .int (nI s0), .int (nI r0), .ref (zo)]) ++ List.replicate (5 - (lg_sl ([.ref (ad 0 0), .int (nI s0), .int (nI r0), .ref (zo)])).length) Slot.unset).toArray = ls at hl ⊢
  have hl : lv_has ls 5 [(0, .ref (ad 0 0)), (1, .int (nI s0)), (2, .int (nI r0)), (3, .ref (zo))] := hl
  refine lv_aload_n hx hb dL_request_0 rfl (lv_at hl 3 rfl) ?_
  refine lv_iconst (v := nI 0) hx hb dL_request_1 (by decide) ?_
  refine lv_aload_n hx hb dL_request_2 rfl (lv_at hl 0 rfl) ?_
  refine lv_iload_n hx hb dL_request_3 rfl (lv_at hl 1 rfl) ?_
  refine lv_iload_n hx hb dL_request_4 rfl (lv_at hl 2 rfl) ?_
  refine q_wv (va_runV (As := [.int (nI s0), .int (nI r0)]) (rest := [.int (nI 0), .ref (zo)]) ⟨hx, hb, hml, hown, hts⟩ (m_request l G es A σ ad hF s0 r0 hs0 hr0 hn4 ms hms) (cwV 2 hts gL_request_X7_request rfl rfl rfl (by decide +kernel) ⟨Nat.le_of_ble_eq_true rfl, Nat.le_of_ble_eq_true rfl⟩) ⟨qW.blind, qrecv hC (hW.to qLV0) rfl, qW.pre hC hW hZ (va_S.rf (A := A)) (fun _ h => h) hA⟩ rfl rfl hl.1 rfl (lv_room (Nat.le_of_ble_eq_true rfl)) dL_request_5 ⟨Nat.le_of_eq (Nat.zero_add _), Nat.le_of_eq (Nat.zero_add _)⟩) hS (fun _ h => Or.inl h) (fun _ h => Or.inl h) (fun H1 locs hP9 hz hk hS => ?_)
  obtain ⟨ad', hAE, hW⟩ := hP9
  have hat9 := hat.kept (hk zo hat.lt hzo)
  refine lv_i2l (v := (nI (σ 0 4)).toInt64) hx hb dL_request_8 rfl ?_
  refine q_last hx hb hC.1 hat9 (Or.inr rfl) hS 2 rfl (vp_in_nI (n := 0) (by decide) (by decide)) dL_request_9 (fun H2 locs hat2 hsz hoq hS => ?_)
  refine lv_goto (tgt := 21) hx hb dL_request_10 (by decide) ?_
  refine lv_iconst (v := nI 0) hx hb dL_request_21 (by decide) ?_
  refine W.widen (k := 4) (n := (12 + ms)) (Nat.le_of_eq (Nat.zero_add _)) (Nat.le_of_eq (Nat.zero_add _)) ?_
  exact W.iret hx hb hr (fun t ht _ => ⟨rfl, by rw [ht]; exact ⟨ad', hAE, hW.out hzo hoq, _, hat2, q_o1 _ _⟩, hS.F ht⟩) hS.2.2 dL_request_22
set_option maxHeartbeats 4000000 in
set_option maxRecDepth 100000 in
theorem k_answer (l : Launch) (G : QG) (es : Nat) (A : Nat → Prop) (σ ad : QSt) (hF : qWF σ) (i : Nat) (hi : i < σ 0 4) (h1 : σ 193 i ≠ 0) (zo : Nat) (zf : Nat → Int64) (hzo : ¬ A zo) : Met l yL_answer wsL_answer ({ frames := 4, cells := 0, slots := 0, locals := 86 } : Room) (qLg G es A σ ad zo (.inl (G.2 2, 1, .inr (.inl zf))) [.ref (ad 0 0), .int (nI i), .ref (zo)]) (qWV (some (.int (nI 0))) (fun H => qLW G es A σ ad H ∧ ∃ zf' : Nat → Int64, va_at G.1 vwCl (zo, .inl (G.2 2, 1, .inr (.inl zf'))) H ∧ zf' 0 = (nI (σ 194 i)).toInt64) (fun q => A q ∨ q = zo)) 0 0 (fun q => A q ∨ q = zo) := by
  refine q_ofWH (cc := cL_answer) (maxL := 4) (ret := (some .int)) (hh := [(0, 9, 12, 21), (0, 9, 15, 15)]) (by decide) rfl ?_
  intro p e s m args below meth c s₁ B hml htab hv
  obtain ⟨rfl, hC, hW, hZ, hA, hzT, hzN, hat⟩ := hv
  have hx := B.exec
  have hb := B.bytes
  have hr := B.returns
  have hts := atoms_spec (ws := wsL_answer) B.pre
  have hown : s.vm.findClass RL = some m.cls := findClass_of_methodNamed B.named
  have hlocks := B.notSynchronized
  have hS : va_S (fun q => A q ∨ q = zo) s.heap s.heap [] := va_S.rf
  have hl := lv_entry ([.ref (ad 0 0), .int (nI i), .ref (zo)]) (n := 4) (Nat.le_of_ble_eq_true rfl)
  rw [lg_entry_eq]
  generalize (lg_sl ([.ref (ad 0 0), .int (nI i), .ref (zo)]) ++ List.replicate (4 - (lg_sl ([.ref (ad 0 0), .int (nI i), .ref (zo)])).length) Slot.unset).toArray = ls at hl ⊢
  have hl : lv_has ls 4 [(0, .ref (ad 0 0)), (1, .int (nI i)), (2, .ref (zo))] := hl
  refine lv_aload_n hx hb dL_answer_0 rfl (lv_at hl 2 rfl) ?_
  refine lv_iconst (v := nI 0) hx hb dL_answer_1 (by decide) ?_
  refine lv_aload_n hx hb dL_answer_2 rfl (lv_at hl 0 rfl) ?_
  refine lv_iload_n hx hb dL_answer_3 rfl (lv_at hl 1 rfl) ?_
  refine q_v (va_runV (As := [.int (nI i)]) (rest := [.int (nI 0), .ref (zo)]) ⟨hx, hb, hml, hown, hts⟩ (m_answer l G es A σ ad hF i hi h1) (cwV 1 hts gL_answer_X7_answer rfl rfl rfl (by decide +kernel) ⟨Nat.le_of_ble_eq_true rfl, Nat.le_of_ble_eq_true rfl⟩) ⟨qR.blind, qrecv hC (hW.to qLV0) rfl, qR.pre hC hW⟩ rfl rfl hl.1 rfl (lv_room (Nat.le_of_ble_eq_true rfl)) dL_answer_4 ⟨Nat.le_of_ble_eq_true rfl, Nat.le_of_ble_eq_true rfl⟩) hS (fun _ h => h.elim) (fun locs hS => ?_)
  have hat9 := hat
  refine lv_i2l (v := (nI (σ 194 i)).toInt64) hx hb dL_answer_7 rfl ?_
  refine q_last hx hb hC.1 hat9 (Or.inr rfl) hS 2 rfl (vp_in_nI (n := 0) (by decide) (by decide)) dL_answer_8 (fun H2 locs hat2 hsz hoq hS => ?_)
  refine lv_goto (tgt := 18) hx hb dL_answer_9 (by decide) ?_
  refine lv_iconst (v := nI 0) hx hb dL_answer_18 (by decide) ?_
  exact W.iret hx hb hr (fun t ht _ => ⟨rfl, by rw [ht]; exact ⟨hW.out hzo hoq, _, hat2, q_o1 _ _⟩, hS.F ht⟩) hS.2.2 dL_answer_19
set_option maxHeartbeats 4000000 in
set_option maxRecDepth 100000 in
theorem k_addAlert (l : Launch) (G : QG) (es : Nat) (A : Nat → Prop) (σ ad : QSt) (hF : qWF σ) (s0 r0 P w0 g0 n0 h0 : Nat) (hs0 : s0 < 4) (hr0 : r0 < 5) (hP : P ≤ 3) (hw0 : w0 < 100) (hg0 : 1 ≤ g0 ∧ g0 ≤ 9) (hn0 : 1 ≤ n0 ∧ n0 ≤ 50) (hh0 : h0 ≤ 20) (hn2 : σ 0 2 < 6) (hn3 : σ 0 3 < 1300) (h16 : σ 16 3 + 1 < 1073741824) (h162 : σ 16 2 + 1 < 1073741824) (hm : ∀ i j, i ≤ j → j < σ 0 0 → σ 67 i ≤ σ 67 j) (hg : ∀ l0, σ 70 l0 ≤ 999999) (ms m3 : Nat) (hms : σ 0 2 < σ 32 2 ∨ qcap (σ 0 2) (σ 32 2) ≤ ms) (hm3 : σ 0 3 < σ 32 3 ∨ qcap (σ 0 3) (σ 32 3) ≤ m3) (zo : Nat) (zf : Nat → Int64) (hzo : ¬ A zo) : Met l yL_addAlert wsL_addAlert ({ frames := 9, cells := 6, slots := (22 + ms + m3), locals := 222 } : Room) (qLg G es A σ ad zo (.inl (G.2 2, 1, .inr (.inl zf))) [.ref (ad 0 0), .int (nI s0), .int (nI r0), .int (nI P - 1), .int (nI w0), .int (nI g0), .int (nI n0), .int (nI h0), .ref (zo)]) (qWV (some (.int (nI 0))) (fun H => ∃ ad', qAE σ ad ad' ∧ qLW G es A (qfAa σ s0 r0 P w0 g0 n0 h0) ad' H ∧ ∃ zf' : Nat → Int64, va_at G.1 vwCl (zo, .inl (G.2 2, 1, .inr (.inl zf'))) H ∧ zf' 0 = (nI (σ 0 2)).toInt64) (fun q => A q ∨ q = zo)) 6 (22 + ms + m3) (fun q => A q ∨ q = zo) := by
  refine q_ofWH (cc := cL_addAlert) (maxL := 10) (ret := (some .int)) (hh := [(0, 20, 23, 13), (0, 20, 27, 15)]) (by decide) rfl ?_
  intro p e s m args below meth c s₁ B hml htab hv
  obtain ⟨rfl, hC, hW, hZ, hA, hzT, hzN, hat⟩ := hv
  have hx := B.exec
  have hb := B.bytes
  have hr := B.returns
  have hts := atoms_spec (ws := wsL_addAlert) B.pre
  have hown : s.vm.findClass RL = some m.cls := findClass_of_methodNamed B.named
  have hlocks := B.notSynchronized
  have hS : va_S (fun q => A q ∨ q = zo) s.heap s.heap [] := va_S.rf
  have hl := lv_entry ([.ref (ad 0 0), .int (nI s0), .int (nI r0), .int (nI P - 1), .int (nI w0), .int (nI g0), .int (nI n0), .int (nI h0), .ref (zo)]) (n := 10) (Nat.le_of_ble_eq_true rfl)
  rw [lg_entry_eq]
  generalize (lg_sl ([.ref (ad 0 0), .int (nI s0), .int (nI r0), .int (nI P - 1), .int (nI w0), .int (nI g0), .int (nI n0), .int (nI h0), .ref (zo)]) ++ List.replicate (10 - (lg_sl ([.ref (ad 0 0), .int (nI s0), .int (nI r0), .int (nI P - 1), .int (nI w0), .int (nI g0), .int (nI n0), .int (nI h0), .ref (zo)])).length) Slot.unset).toArray = ls at hl ⊢
  have hl : lv_has ls 10 [(0, .ref (ad 0 0)), (1, .int (nI s0)), (2, .int (nI r0)), (3, .int (nI P - 1)), (4, .int (nI w0)), (5, .int (nI g0)), (6, .int (nI n0)), (7, .int (nI h0)), (8, .ref (zo))] := hl
  refine lv_aload hx hb dL_addAlert_0 (lv_at hl 8 rfl) ?_
  refine lv_iconst (v := nI 0) hx hb dL_addAlert_2 (by decide) ?_
  refine lv_aload_n hx hb dL_addAlert_3 rfl (lv_at hl 0 rfl) ?_
  refine lv_iload_n hx hb dL_addAlert_4 rfl (lv_at hl 1 rfl) ?_
  refine lv_iload_n hx hb dL_addAlert_5 rfl (lv_at hl 2 rfl) ?_
  refine lv_iload_n hx hb dL_addAlert_6 rfl (lv_at hl 3 rfl) ?_
  refine lv_iload hx hb dL_addAlert_7 (lv_at hl 4 rfl) ?_
  refine lv_iload hx hb dL_addAlert_9 (lv_at hl 5 rfl) ?_
  refine lv_iload hx hb dL_addAlert_11 (lv_at hl 6 rfl) ?_
  refine lv_iload hx hb dL_addAlert_13 (lv_at hl 7 rfl) ?_
  refine q_wv (va_runV (As := [.int (nI s0), .int (nI r0), .int (nI P - 1), .int (nI w0), .int (nI g0), .int (nI n0), .int (nI h0)]) (rest := [.int (nI 0), .ref (zo)]) ⟨hx, hb, hml, hown, hts⟩ (m_addAlert l G es A σ ad hF s0 r0 P w0 g0 n0 h0 hs0 hr0 hP hw0 hg0 hn0 hh0 hn2 hn3 h16 h162 hm hg ms m3 hms hm3) (cwV 7 hts gL_addAlert_X7_addAlert rfl rfl rfl (by decide +kernel) ⟨Nat.le_of_ble_eq_true rfl, Nat.le_of_ble_eq_true rfl⟩) ⟨qW.blind, qrecv hC (hW.to qLV0) rfl, qW.pre hC hW hZ (va_S.rf (A := A)) (fun _ h => h) hA⟩ rfl rfl hl.1 rfl (lv_room (Nat.le_of_ble_eq_true rfl)) dL_addAlert_15 ⟨Nat.le_of_eq (Nat.zero_add _), Nat.le_of_eq (Nat.zero_add _)⟩) hS (fun _ h => Or.inl h) (fun _ h => Or.inl h) (fun H1 locs hP9 hz hk hS => ?_)
  obtain ⟨ad', hAE, hW⟩ := hP9
  have hat9 := hat.kept (hk zo hat.lt hzo)
  refine lv_i2l (v := (nI (σ 0 2)).toInt64) hx hb dL_addAlert_18 rfl ?_
  refine q_last hx hb hC.1 hat9 (Or.inr rfl) hS 2 rfl (vp_in_nI (n := 0) (by decide) (by decide)) dL_addAlert_19 (fun H2 locs hat2 hsz hoq hS => ?_)
  refine lv_goto (tgt := 31) hx hb dL_addAlert_20 (by decide) ?_
  refine lv_iconst (v := nI 0) hx hb dL_addAlert_31 (by decide) ?_
  refine W.widen (k := 6) (n := (22 + ms + m3)) (Nat.le_of_eq (Nat.zero_add _)) (Nat.le_of_eq (Nat.zero_add _)) ?_
  exact W.iret hx hb hr (fun t ht _ => ⟨rfl, by rw [ht]; exact ⟨ad', hAE, hW.out hzo hoq, _, hat2, q_o1 _ _⟩, hS.F ht⟩) hS.2.2 dL_addAlert_32
set_option maxHeartbeats 4000000 in
set_option maxRecDepth 100000 in
theorem k_alertState (l : Launch) (G : QG) (es : Nat) (A : Nat → Prop) (σ ad : QSt) (hF : qWF σ) (i : Nat) (hi : i < σ 0 2) (zo : Nat) (zf : Nat → Int64) (hzo : ¬ A zo) : Met l yL_alertState wsL_alertState ({ frames := 5, cells := 0, slots := 0, locals := 106 } : Room) (qLg G es A σ ad zo (.inl (G.2 2, 1, .inr (.inl zf))) [.ref (ad 0 0), .int (nI i), .ref (zo)]) (qWV (some (.int (nI 0))) (fun H => qLW G es A σ ad H ∧ ∃ zf' : Nat → Int64, va_at G.1 vwCl (zo, .inl (G.2 2, 1, .inr (.inl zf'))) H ∧ zf' 0 = (nI (σ 131 i)).toInt64) (fun q => A q ∨ q = zo)) 0 0 (fun q => A q ∨ q = zo) := by
  refine q_ofWH (cc := cL_alertState) (maxL := 4) (ret := (some .int)) (hh := [(0, 9, 12, 65)]) (by decide) rfl ?_
  intro p e s m args below meth c s₁ B hml htab hv
  obtain ⟨rfl, hC, hW, hZ, hA, hzT, hzN, hat⟩ := hv
  have hx := B.exec
  have hb := B.bytes
  have hr := B.returns
  have hts := atoms_spec (ws := wsL_alertState) B.pre
  have hown : s.vm.findClass RL = some m.cls := findClass_of_methodNamed B.named
  have hlocks := B.notSynchronized
  have hS : va_S (fun q => A q ∨ q = zo) s.heap s.heap [] := va_S.rf
  have hl := lv_entry ([.ref (ad 0 0), .int (nI i), .ref (zo)]) (n := 4) (Nat.le_of_ble_eq_true rfl)
  rw [lg_entry_eq]
  generalize (lg_sl ([.ref (ad 0 0), .int (nI i), .ref (zo)]) ++ List.replicate (4 - (lg_sl ([.ref (ad 0 0), .int (nI i), .ref (zo)])).length) Slot.unset).toArray = ls at hl ⊢
  have hl : lv_has ls 4 [(0, .ref (ad 0 0)), (1, .int (nI i)), (2, .ref (zo))] := hl
  refine lv_aload_n hx hb dL_alertState_0 rfl (lv_at hl 2 rfl) ?_
  refine lv_iconst (v := nI 0) hx hb dL_alertState_1 (by decide) ?_
  refine lv_aload_n hx hb dL_alertState_2 rfl (lv_at hl 0 rfl) ?_
  refine lv_iload_n hx hb dL_alertState_3 rfl (lv_at hl 1 rfl) ?_
  refine q_v (va_runV (As := [.int (nI i)]) (rest := [.int (nI 0), .ref (zo)]) ⟨hx, hb, hml, hown, hts⟩ (m_alertState l G es A σ ad hF i hi) (cwV 1 hts gL_alertState_X7_alertState rfl rfl rfl (by decide +kernel) ⟨Nat.le_of_ble_eq_true rfl, Nat.le_of_ble_eq_true rfl⟩) ⟨qR.blind, qrecv hC (hW.to qLV0) rfl, qR.pre hC hW⟩ rfl rfl hl.1 rfl (lv_room (Nat.le_of_ble_eq_true rfl)) dL_alertState_4 ⟨Nat.le_of_ble_eq_true rfl, Nat.le_of_ble_eq_true rfl⟩) hS (fun _ h => h.elim) (fun locs hS => ?_)
  have hat9 := hat
  refine lv_i2l (v := (nI (σ 131 i)).toInt64) hx hb dL_alertState_7 rfl ?_
  refine q_last hx hb hC.1 hat9 (Or.inr rfl) hS 2 rfl (vp_in_nI (n := 0) (by decide) (by decide)) dL_alertState_8 (fun H2 locs hat2 hsz hoq hS => ?_)
  refine lv_goto (tgt := 15) hx hb dL_alertState_9 (by decide) ?_
  refine lv_iconst (v := nI 0) hx hb dL_alertState_15 (by decide) ?_
  exact W.iret hx hb hr (fun t ht _ => ⟨rfl, by rw [ht]; exact ⟨hW.out hzo hoq, _, hat2, q_o1 _ _⟩, hS.F ht⟩) hS.2.2 dL_alertState_16
set_option maxHeartbeats 4000000 in
set_option maxRecDepth 100000 in
theorem k_counted (l : Launch) (G : QG) (es : Nat) (A : Nat → Prop) (σ ad : QSt) (hF : qWF σ) (i : Nat) (hi : i < σ 0 2) (zo : Nat) (zf : Nat → Int64) (hzo : ¬ A zo) : Met l yL_counted wsL_counted ({ frames := 5, cells := 0, slots := 0, locals := 106 } : Room) (qLg G es A σ ad zo (.inl (G.2 2, 1, .inr (.inl zf))) [.ref (ad 0 0), .int (nI i), .ref (zo)]) (qWV (some (.int (nI 0))) (fun H => qLW G es A σ ad H ∧ ∃ zf' : Nat → Int64, va_at G.1 vwCl (zo, .inl (G.2 2, 1, .inr (.inl zf'))) H ∧ zf' 0 = (nI (σ 132 i)).toInt64) (fun q => A q ∨ q = zo)) 0 0 (fun q => A q ∨ q = zo) := by
  refine q_ofWH (cc := cL_counted) (maxL := 4) (ret := (some .int)) (hh := [(0, 9, 12, 65)]) (by decide) rfl ?_
  intro p e s m args below meth c s₁ B hml htab hv
  obtain ⟨rfl, hC, hW, hZ, hA, hzT, hzN, hat⟩ := hv
  have hx := B.exec
  have hb := B.bytes
  have hr := B.returns
  have hts := atoms_spec (ws := wsL_counted) B.pre
  have hown : s.vm.findClass RL = some m.cls := findClass_of_methodNamed B.named
  have hlocks := B.notSynchronized
  have hS : va_S (fun q => A q ∨ q = zo) s.heap s.heap [] := va_S.rf
  have hl := lv_entry ([.ref (ad 0 0), .int (nI i), .ref (zo)]) (n := 4) (Nat.le_of_ble_eq_true rfl)
  rw [lg_entry_eq]
  generalize (lg_sl ([.ref (ad 0 0), .int (nI i), .ref (zo)]) ++ List.replicate (4 - (lg_sl ([.ref (ad 0 0), .int (nI i), .ref (zo)])).length) Slot.unset).toArray = ls at hl ⊢
  have hl : lv_has ls 4 [(0, .ref (ad 0 0)), (1, .int (nI i)), (2, .ref (zo))] := hl
  refine lv_aload_n hx hb dL_counted_0 rfl (lv_at hl 2 rfl) ?_
  refine lv_iconst (v := nI 0) hx hb dL_counted_1 (by decide) ?_
  refine lv_aload_n hx hb dL_counted_2 rfl (lv_at hl 0 rfl) ?_
  refine lv_iload_n hx hb dL_counted_3 rfl (lv_at hl 1 rfl) ?_
  refine q_v (va_runV (As := [.int (nI i)]) (rest := [.int (nI 0), .ref (zo)]) ⟨hx, hb, hml, hown, hts⟩ (m_counted l G es A σ ad hF i hi) (cwV 1 hts gL_counted_X7_counted rfl rfl rfl (by decide +kernel) ⟨Nat.le_of_ble_eq_true rfl, Nat.le_of_ble_eq_true rfl⟩) ⟨qR.blind, qrecv hC (hW.to qLV0) rfl, qR.pre hC hW⟩ rfl rfl hl.1 rfl (lv_room (Nat.le_of_ble_eq_true rfl)) dL_counted_4 ⟨Nat.le_of_ble_eq_true rfl, Nat.le_of_ble_eq_true rfl⟩) hS (fun _ h => h.elim) (fun locs hS => ?_)
  have hat9 := hat
  refine lv_i2l (v := (nI (σ 132 i)).toInt64) hx hb dL_counted_7 rfl ?_
  refine q_last hx hb hC.1 hat9 (Or.inr rfl) hS 2 rfl (vp_in_nI (n := 0) (by decide) (by decide)) dL_counted_8 (fun H2 locs hat2 hsz hoq hS => ?_)
  refine lv_goto (tgt := 15) hx hb dL_counted_9 (by decide) ?_
  refine lv_iconst (v := nI 0) hx hb dL_counted_15 (by decide) ?_
  exact W.iret hx hb hr (fun t ht _ => ⟨rfl, by rw [ht]; exact ⟨hW.out hzo hoq, _, hat2, q_o1 _ _⟩, hS.F ht⟩) hS.2.2 dL_counted_16
set_option maxHeartbeats 4000000 in
set_option maxRecDepth 100000 in
theorem k_countedAnew (l : Launch) (G : QG) (es : Nat) (A : Nat → Prop) (σ ad : QSt) (hF : qWF σ) (i : Nat) (hi : i < σ 0 2) (zo : Nat) (zf : Nat → Int64) (hzo : ¬ A zo) : Met l yL_countedAnew wsL_countedAnew ({ frames := 5, cells := 0, slots := 0, locals := 108 } : Room) (qLg G es A σ ad zo (.inl (G.2 2, 1, .inr (.inl zf))) [.ref (ad 0 0), .int (nI i), .ref (zo)]) (qWV (some (.int (nI 0))) (fun H => qLW G es A σ ad H ∧ ∃ zf' : Nat → Int64, va_at G.1 vwCl (zo, .inl (G.2 2, 1, .inr (.inl zf'))) H ∧ zf' 0 = (nI (qcnt σ i)).toInt64) (fun q => A q ∨ q = zo)) 0 0 (fun q => A q ∨ q = zo) := by
  refine q_ofWH (cc := cL_countedAnew) (maxL := 4) (ret := (some .int)) (hh := [(0, 9, 12, 65)]) (by decide) rfl ?_
  intro p e s m args below meth c s₁ B hml htab hv
  obtain ⟨rfl, hC, hW, hZ, hA, hzT, hzN, hat⟩ := hv
  have hx := B.exec
  have hb := B.bytes
  have hr := B.returns
  have hts := atoms_spec (ws := wsL_countedAnew) B.pre
  have hown : s.vm.findClass RL = some m.cls := findClass_of_methodNamed B.named
  have hlocks := B.notSynchronized
  have hS : va_S (fun q => A q ∨ q = zo) s.heap s.heap [] := va_S.rf
  have hl := lv_entry ([.ref (ad 0 0), .int (nI i), .ref (zo)]) (n := 4) (Nat.le_of_ble_eq_true rfl)
  rw [lg_entry_eq]
  generalize (lg_sl ([.ref (ad 0 0), .int (nI i), .ref (zo)]) ++ List.replicate (4 - (lg_sl ([.ref (ad 0 0), .int (nI i), .ref (zo)])).length) Slot.unset).toArray = ls at hl ⊢
  have hl : lv_has ls 4 [(0, .ref (ad 0 0)), (1, .int (nI i)), (2, .ref (zo))] := hl
  refine lv_aload_n hx hb dL_countedAnew_0 rfl (lv_at hl 2 rfl) ?_
  refine lv_iconst (v := nI 0) hx hb dL_countedAnew_1 (by decide) ?_
  refine lv_aload_n hx hb dL_countedAnew_2 rfl (lv_at hl 0 rfl) ?_
  refine lv_iload_n hx hb dL_countedAnew_3 rfl (lv_at hl 1 rfl) ?_
  refine q_v (va_runV (As := [.int (nI i)]) (rest := [.int (nI 0), .ref (zo)]) ⟨hx, hb, hml, hown, hts⟩ (m_countedAnew l G es A σ ad hF i hi) (cwV 1 hts gL_countedAnew_X7_countedAnew rfl rfl rfl (by decide +kernel) ⟨Nat.le_of_ble_eq_true rfl, Nat.le_of_ble_eq_true rfl⟩) ⟨qR.blind, qrecv hC (hW.to qLV0) rfl, qR.pre hC hW⟩ rfl rfl hl.1 rfl (lv_room (Nat.le_of_ble_eq_true rfl)) dL_countedAnew_4 ⟨Nat.le_of_ble_eq_true rfl, Nat.le_of_ble_eq_true rfl⟩) hS (fun _ h => h.elim) (fun locs hS => ?_)
  have hat9 := hat
  refine lv_i2l (v := (nI (qcnt σ i)).toInt64) hx hb dL_countedAnew_7 rfl ?_
  refine q_last hx hb hC.1 hat9 (Or.inr rfl) hS 2 rfl (vp_in_nI (n := 0) (by decide) (by decide)) dL_countedAnew_8 (fun H2 locs hat2 hsz hoq hS => ?_)
  refine lv_goto (tgt := 15) hx hb dL_countedAnew_9 (by decide) ?_
  refine lv_iconst (v := nI 0) hx hb dL_countedAnew_15 (by decide) ?_
  exact W.iret hx hb hr (fun t ht _ => ⟨rfl, by rw [ht]; exact ⟨hW.out hzo hoq, _, hat2, q_o1 _ _⟩, hS.F ht⟩) hS.2.2 dL_countedAnew_16
set_option maxHeartbeats 4000000 in
set_option maxRecDepth 100000 in
theorem k_heldFor (l : Launch) (G : QG) (es : Nat) (A : Nat → Prop) (σ ad : QSt) (hF : qWF σ) (i : Nat) (hi : i < σ 0 2) (zo : Nat) (zf : Nat → Int64) (hzo : ¬ A zo) : Met l yL_heldFor wsL_heldFor ({ frames := 5, cells := 0, slots := 0, locals := 106 } : Room) (qLg G es A σ ad zo (.inl (G.2 2, 1, .inr (.inl zf))) [.ref (ad 0 0), .int (nI i), .ref (zo)]) (qWV (some (.int (nI 0))) (fun H => qLW G es A σ ad H ∧ ∃ zf' : Nat → Int64, va_at G.1 vwCl (zo, .inl (G.2 2, 1, .inr (.inl zf'))) H ∧ zf' 0 = (nI (σ 133 i)).toInt64) (fun q => A q ∨ q = zo)) 0 0 (fun q => A q ∨ q = zo) := by
  refine q_ofWH (cc := cL_heldFor) (maxL := 4) (ret := (some .int)) (hh := [(0, 9, 12, 65)]) (by decide) rfl ?_
  intro p e s m args below meth c s₁ B hml htab hv
  obtain ⟨rfl, hC, hW, hZ, hA, hzT, hzN, hat⟩ := hv
  have hx := B.exec
  have hb := B.bytes
  have hr := B.returns
  have hts := atoms_spec (ws := wsL_heldFor) B.pre
  have hown : s.vm.findClass RL = some m.cls := findClass_of_methodNamed B.named
  have hlocks := B.notSynchronized
  have hS : va_S (fun q => A q ∨ q = zo) s.heap s.heap [] := va_S.rf
  have hl := lv_entry ([.ref (ad 0 0), .int (nI i), .ref (zo)]) (n := 4) (Nat.le_of_ble_eq_true rfl)
  rw [lg_entry_eq]
  generalize (lg_sl ([.ref (ad 0 0), .int (nI i), .ref (zo)]) ++ List.replicate (4 - (lg_sl ([.ref (ad 0 0), .int (nI i), .ref (zo)])).length) Slot.unset).toArray = ls at hl ⊢
  have hl : lv_has ls 4 [(0, .ref (ad 0 0)), (1, .int (nI i)), (2, .ref (zo))] := hl
  refine lv_aload_n hx hb dL_heldFor_0 rfl (lv_at hl 2 rfl) ?_
  refine lv_iconst (v := nI 0) hx hb dL_heldFor_1 (by decide) ?_
  refine lv_aload_n hx hb dL_heldFor_2 rfl (lv_at hl 0 rfl) ?_
  refine lv_iload_n hx hb dL_heldFor_3 rfl (lv_at hl 1 rfl) ?_
  refine q_v (va_runV (As := [.int (nI i)]) (rest := [.int (nI 0), .ref (zo)]) ⟨hx, hb, hml, hown, hts⟩ (m_heldFor l G es A σ ad hF i hi) (cwV 1 hts gL_heldFor_X7_heldFor rfl rfl rfl (by decide +kernel) ⟨Nat.le_of_ble_eq_true rfl, Nat.le_of_ble_eq_true rfl⟩) ⟨qR.blind, qrecv hC (hW.to qLV0) rfl, qR.pre hC hW⟩ rfl rfl hl.1 rfl (lv_room (Nat.le_of_ble_eq_true rfl)) dL_heldFor_4 ⟨Nat.le_of_ble_eq_true rfl, Nat.le_of_ble_eq_true rfl⟩) hS (fun _ h => h.elim) (fun locs hS => ?_)
  have hat9 := hat
  refine lv_i2l (v := (nI (σ 133 i)).toInt64) hx hb dL_heldFor_7 rfl ?_
  refine q_last hx hb hC.1 hat9 (Or.inr rfl) hS 2 rfl (vp_in_nI (n := 0) (by decide) (by decide)) dL_heldFor_8 (fun H2 locs hat2 hsz hoq hS => ?_)
  refine lv_goto (tgt := 15) hx hb dL_heldFor_9 (by decide) ?_
  refine lv_iconst (v := nI 0) hx hb dL_heldFor_15 (by decide) ?_
  exact W.iret hx hb hr (fun t ht _ => ⟨rfl, by rw [ht]; exact ⟨hW.out hzo hoq, _, hat2, q_o1 _ _⟩, hS.F ht⟩) hS.2.2 dL_heldFor_16
set_option maxHeartbeats 4000000 in
set_option maxRecDepth 100000 in
theorem k_alertOf (l : Launch) (G : QG) (es : Nat) (A : Nat → Prop) (σ ad : QSt) (hF : qWF σ) (i : Nat) (hi : i < σ 0 3) (zo : Nat) (zf : Nat → Int64) (hzo : ¬ A zo) : Met l yL_alertOf wsL_alertOf ({ frames := 5, cells := 0, slots := 0, locals := 106 } : Room) (qLg G es A σ ad zo (.inl (G.2 2, 1, .inr (.inl zf))) [.ref (ad 0 0), .int (nI i), .ref (zo)]) (qWV (some (.int (nI 0))) (fun H => qLW G es A σ ad H ∧ ∃ zf' : Nat → Int64, va_at G.1 vwCl (zo, .inl (G.2 2, 1, .inr (.inl zf'))) H ∧ zf' 0 = (nI (σ 160 i)).toInt64) (fun q => A q ∨ q = zo)) 0 0 (fun q => A q ∨ q = zo) := by
  refine q_ofWH (cc := cL_alertOf) (maxL := 4) (ret := (some .int)) (hh := [(0, 9, 12, 21)]) (by decide) rfl ?_
  intro p e s m args below meth c s₁ B hml htab hv
  obtain ⟨rfl, hC, hW, hZ, hA, hzT, hzN, hat⟩ := hv
  have hx := B.exec
  have hb := B.bytes
  have hr := B.returns
  have hts := atoms_spec (ws := wsL_alertOf) B.pre
  have hown : s.vm.findClass RL = some m.cls := findClass_of_methodNamed B.named
  have hlocks := B.notSynchronized
  have hS : va_S (fun q => A q ∨ q = zo) s.heap s.heap [] := va_S.rf
  have hl := lv_entry ([.ref (ad 0 0), .int (nI i), .ref (zo)]) (n := 4) (Nat.le_of_ble_eq_true rfl)
  rw [lg_entry_eq]
  generalize (lg_sl ([.ref (ad 0 0), .int (nI i), .ref (zo)]) ++ List.replicate (4 - (lg_sl ([.ref (ad 0 0), .int (nI i), .ref (zo)])).length) Slot.unset).toArray = ls at hl ⊢
  have hl : lv_has ls 4 [(0, .ref (ad 0 0)), (1, .int (nI i)), (2, .ref (zo))] := hl
  refine lv_aload_n hx hb dL_alertOf_0 rfl (lv_at hl 2 rfl) ?_
  refine lv_iconst (v := nI 0) hx hb dL_alertOf_1 (by decide) ?_
  refine lv_aload_n hx hb dL_alertOf_2 rfl (lv_at hl 0 rfl) ?_
  refine lv_iload_n hx hb dL_alertOf_3 rfl (lv_at hl 1 rfl) ?_
  refine q_v (va_runV (As := [.int (nI i)]) (rest := [.int (nI 0), .ref (zo)]) ⟨hx, hb, hml, hown, hts⟩ (m_alertOf l G es A σ ad hF i hi) (cwV 1 hts gL_alertOf_X7_alertOf rfl rfl rfl (by decide +kernel) ⟨Nat.le_of_ble_eq_true rfl, Nat.le_of_ble_eq_true rfl⟩) ⟨qR.blind, qrecv hC (hW.to qLV0) rfl, qR.pre hC hW⟩ rfl rfl hl.1 rfl (lv_room (Nat.le_of_ble_eq_true rfl)) dL_alertOf_4 ⟨Nat.le_of_ble_eq_true rfl, Nat.le_of_ble_eq_true rfl⟩) hS (fun _ h => h.elim) (fun locs hS => ?_)
  have hat9 := hat
  refine lv_i2l (v := (nI (σ 160 i)).toInt64) hx hb dL_alertOf_7 rfl ?_
  refine q_last hx hb hC.1 hat9 (Or.inr rfl) hS 2 rfl (vp_in_nI (n := 0) (by decide) (by decide)) dL_alertOf_8 (fun H2 locs hat2 hsz hoq hS => ?_)
  refine lv_goto (tgt := 15) hx hb dL_alertOf_9 (by decide) ?_
  refine lv_iconst (v := nI 0) hx hb dL_alertOf_15 (by decide) ?_
  exact W.iret hx hb hr (fun t ht _ => ⟨rfl, by rw [ht]; exact ⟨hW.out hzo hoq, _, hat2, q_o1 _ _⟩, hS.F ht⟩) hS.2.2 dL_alertOf_16
set_option maxHeartbeats 4000000 in
set_option maxRecDepth 100000 in
theorem k_firedAt (l : Launch) (G : QG) (es : Nat) (A : Nat → Prop) (σ ad : QSt) (hF : qWF σ) (i : Nat) (hi : i < σ 0 3) (zo : Nat) (zf : Nat → Int64) (hzo : ¬ A zo) : Met l yL_firedAt wsL_firedAt ({ frames := 5, cells := 0, slots := 0, locals := 106 } : Room) (qLg G es A σ ad zo (.inl (G.2 2, 1, .inr (.inl zf))) [.ref (ad 0 0), .int (nI i), .ref (zo)]) (qWV (some (.int (nI 0))) (fun H => qLW G es A σ ad H ∧ ∃ zf' : Nat → Int64, va_at G.1 vwCl (zo, .inl (G.2 2, 1, .inr (.inl zf'))) H ∧ zf' 0 = (nI (σ 161 i)).toInt64) (fun q => A q ∨ q = zo)) 0 0 (fun q => A q ∨ q = zo) := by
  refine q_ofWH (cc := cL_firedAt) (maxL := 4) (ret := (some .int)) (hh := [(0, 9, 12, 21)]) (by decide) rfl ?_
  intro p e s m args below meth c s₁ B hml htab hv
  obtain ⟨rfl, hC, hW, hZ, hA, hzT, hzN, hat⟩ := hv
  have hx := B.exec
  have hb := B.bytes
  have hr := B.returns
  have hts := atoms_spec (ws := wsL_firedAt) B.pre
  have hown : s.vm.findClass RL = some m.cls := findClass_of_methodNamed B.named
  have hlocks := B.notSynchronized
  have hS : va_S (fun q => A q ∨ q = zo) s.heap s.heap [] := va_S.rf
  have hl := lv_entry ([.ref (ad 0 0), .int (nI i), .ref (zo)]) (n := 4) (Nat.le_of_ble_eq_true rfl)
  rw [lg_entry_eq]
  generalize (lg_sl ([.ref (ad 0 0), .int (nI i), .ref (zo)]) ++ List.replicate (4 - (lg_sl ([.ref (ad 0 0), .int (nI i), .ref (zo)])).length) Slot.unset).toArray = ls at hl ⊢
  have hl : lv_has ls 4 [(0, .ref (ad 0 0)), (1, .int (nI i)), (2, .ref (zo))] := hl
  refine lv_aload_n hx hb dL_firedAt_0 rfl (lv_at hl 2 rfl) ?_
  refine lv_iconst (v := nI 0) hx hb dL_firedAt_1 (by decide) ?_
  refine lv_aload_n hx hb dL_firedAt_2 rfl (lv_at hl 0 rfl) ?_
  refine lv_iload_n hx hb dL_firedAt_3 rfl (lv_at hl 1 rfl) ?_
  refine q_v (va_runV (As := [.int (nI i)]) (rest := [.int (nI 0), .ref (zo)]) ⟨hx, hb, hml, hown, hts⟩ (m_firedAt l G es A σ ad hF i hi) (cwV 1 hts gL_firedAt_X7_firedAt rfl rfl rfl (by decide +kernel) ⟨Nat.le_of_ble_eq_true rfl, Nat.le_of_ble_eq_true rfl⟩) ⟨qR.blind, qrecv hC (hW.to qLV0) rfl, qR.pre hC hW⟩ rfl rfl hl.1 rfl (lv_room (Nat.le_of_ble_eq_true rfl)) dL_firedAt_4 ⟨Nat.le_of_ble_eq_true rfl, Nat.le_of_ble_eq_true rfl⟩) hS (fun _ h => h.elim) (fun locs hS => ?_)
  have hat9 := hat
  refine lv_i2l (v := (nI (σ 161 i)).toInt64) hx hb dL_firedAt_7 rfl ?_
  refine q_last hx hb hC.1 hat9 (Or.inr rfl) hS 2 rfl (vp_in_nI (n := 0) (by decide) (by decide)) dL_firedAt_8 (fun H2 locs hat2 hsz hoq hS => ?_)
  refine lv_goto (tgt := 15) hx hb dL_firedAt_9 (by decide) ?_
  refine lv_iconst (v := nI 0) hx hb dL_firedAt_15 (by decide) ?_
  exact W.iret hx hb hr (fun t ht _ => ⟨rfl, by rw [ht]; exact ⟨hW.out hzo hoq, _, hat2, q_o1 _ _⟩, hS.F ht⟩) hS.2.2 dL_firedAt_16
set_option maxHeartbeats 4000000 in
set_option maxRecDepth 100000 in
theorem k_ground (l : Launch) (G : QG) (es : Nat) (A : Nat → Prop) (σ ad : QSt) (hF : qWF σ) (i : Nat) (hi : i < σ 0 3) (zo : Nat) (zf : Nat → Int64) (hzo : ¬ A zo) : Met l yL_ground wsL_ground ({ frames := 5, cells := 0, slots := 0, locals := 106 } : Room) (qLg G es A σ ad zo (.inl (G.2 2, 1, .inr (.inl zf))) [.ref (ad 0 0), .int (nI i), .ref (zo)]) (qWV (some (.int (nI 0))) (fun H => qLW G es A σ ad H ∧ ∃ zf' : Nat → Int64, va_at G.1 vwCl (zo, .inl (G.2 2, 1, .inr (.inl zf'))) H ∧ zf' 0 = (nI (σ 163 i)).toInt64) (fun q => A q ∨ q = zo)) 0 0 (fun q => A q ∨ q = zo) := by
  refine q_ofWH (cc := cL_ground) (maxL := 4) (ret := (some .int)) (hh := [(0, 9, 12, 21)]) (by decide) rfl ?_
  intro p e s m args below meth c s₁ B hml htab hv
  obtain ⟨rfl, hC, hW, hZ, hA, hzT, hzN, hat⟩ := hv
  have hx := B.exec
  have hb := B.bytes
  have hr := B.returns
  have hts := atoms_spec (ws := wsL_ground) B.pre
  have hown : s.vm.findClass RL = some m.cls := findClass_of_methodNamed B.named
  have hlocks := B.notSynchronized
  have hS : va_S (fun q => A q ∨ q = zo) s.heap s.heap [] := va_S.rf
  have hl := lv_entry ([.ref (ad 0 0), .int (nI i), .ref (zo)]) (n := 4) (Nat.le_of_ble_eq_true rfl)
  rw [lg_entry_eq]
  generalize (lg_sl ([.ref (ad 0 0), .int (nI i), .ref (zo)]) ++ List.replicate (4 - (lg_sl ([.ref (ad 0 0), .int (nI i), .ref (zo)])).length) Slot.unset).toArray = ls at hl ⊢
  have hl : lv_has ls 4 [(0, .ref (ad 0 0)), (1, .int (nI i)), (2, .ref (zo))] := hl
  refine lv_aload_n hx hb dL_ground_0 rfl (lv_at hl 2 rfl) ?_
  refine lv_iconst (v := nI 0) hx hb dL_ground_1 (by decide) ?_
  refine lv_aload_n hx hb dL_ground_2 rfl (lv_at hl 0 rfl) ?_
  refine lv_iload_n hx hb dL_ground_3 rfl (lv_at hl 1 rfl) ?_
  refine q_v (va_runV (As := [.int (nI i)]) (rest := [.int (nI 0), .ref (zo)]) ⟨hx, hb, hml, hown, hts⟩ (m_ground l G es A σ ad hF i hi) (cwV 1 hts gL_ground_X7_ground rfl rfl rfl (by decide +kernel) ⟨Nat.le_of_ble_eq_true rfl, Nat.le_of_ble_eq_true rfl⟩) ⟨qR.blind, qrecv hC (hW.to qLV0) rfl, qR.pre hC hW⟩ rfl rfl hl.1 rfl (lv_room (Nat.le_of_ble_eq_true rfl)) dL_ground_4 ⟨Nat.le_of_ble_eq_true rfl, Nat.le_of_ble_eq_true rfl⟩) hS (fun _ h => h.elim) (fun locs hS => ?_)
  have hat9 := hat
  refine lv_i2l (v := (nI (σ 163 i)).toInt64) hx hb dL_ground_7 rfl ?_
  refine q_last hx hb hC.1 hat9 (Or.inr rfl) hS 2 rfl (vp_in_nI (n := 0) (by decide) (by decide)) dL_ground_8 (fun H2 locs hat2 hsz hoq hS => ?_)
  refine lv_goto (tgt := 15) hx hb dL_ground_9 (by decide) ?_
  refine lv_iconst (v := nI 0) hx hb dL_ground_15 (by decide) ?_
  exact W.iret hx hb hr (fun t ht _ => ⟨rfl, by rw [ht]; exact ⟨hW.out hzo hoq, _, hat2, q_o1 _ _⟩, hS.F ht⟩) hS.2.2 dL_ground_16
set_option maxHeartbeats 4000000 in
set_option maxRecDepth 100000 in
theorem k_standsOn (l : Launch) (G : QG) (es : Nat) (A : Nat → Prop) (σ ad : QSt) (hF : qWF σ) (f i : Nat) (hf : f < σ 0 3) (hi : i < σ 0 0) (zo : Nat) (zf : Nat → Int64) (hzo : ¬ A zo) : Met l yL_standsOn wsL_standsOn ({ frames := 5, cells := 0, slots := 0, locals := 108 } : Room) (qLg G es A σ ad zo (.inl (G.2 2, 1, .inr (.inl zf))) [.ref (ad 0 0), .int (nI f), .int (nI i), .ref (zo)]) (qWV (some (.int (nI 0))) (fun H => qLW G es A σ ad H ∧ ∃ zf' : Nat → Int64, va_at G.1 vwCl (zo, .inl (G.2 2, 1, .inr (.inl zf'))) H ∧ zf' 0 = lN (qB (σ (1000 + f) i = 1))) (fun q => A q ∨ q = zo)) 0 0 (fun q => A q ∨ q = zo) := by
  refine q_ofWH (cc := cL_standsOn) (maxL := 5) (ret := (some .int)) (hh := [(0, 17, 20, 21)]) (by decide) rfl ?_
  intro p e s m args below meth c s₁ B hml htab hv
  obtain ⟨rfl, hC, hW, hZ, hA, hzT, hzN, hat⟩ := hv
  have hx := B.exec
  have hb := B.bytes
  have hr := B.returns
  have hts := atoms_spec (ws := wsL_standsOn) B.pre
  have hown : s.vm.findClass RL = some m.cls := findClass_of_methodNamed B.named
  have hlocks := B.notSynchronized
  have hS : va_S (fun q => A q ∨ q = zo) s.heap s.heap [] := va_S.rf
  have hl := lv_entry ([.ref (ad 0 0), .int (nI f), .int (nI i), .ref (zo)]) (n := 5) (Nat.le_of_ble_eq_true rfl)
  rw [lg_entry_eq]
  generalize (lg_sl ([.ref (ad 0 0), .int (nI f), .int (nI i), .ref (zo)]) ++ List.replicate (5 - (lg_sl ([.ref (ad 0 0), .int (nI f), .int (nI i), .ref (zo)])).length) Slot.unset).toArray = ls at hl ⊢
  have hl : lv_has ls 5 [(0, .ref (ad 0 0)), (1, .int (nI f)), (2, .int (nI i)), (3, .ref (zo))] := hl
  refine lv_aload_n hx hb dL_standsOn_0 rfl (lv_at hl 3 rfl) ?_
  refine lv_iconst (v := nI 0) hx hb dL_standsOn_1 (by decide) ?_
  refine lv_aload_n hx hb dL_standsOn_2 rfl (lv_at hl 0 rfl) ?_
  refine lv_iload_n hx hb dL_standsOn_3 rfl (lv_at hl 1 rfl) ?_
  refine lv_iload_n hx hb dL_standsOn_4 rfl (lv_at hl 2 rfl) ?_
  refine q_v (va_runV (As := [.int (nI f), .int (nI i)]) (rest := [.int (nI 0), .ref (zo)]) ⟨hx, hb, hml, hown, hts⟩ (m_standsOn l G es A σ ad hF f i hf hi) (cwV 2 hts gL_standsOn_X7_standsOn rfl rfl rfl (by decide +kernel) ⟨Nat.le_of_ble_eq_true rfl, Nat.le_of_ble_eq_true rfl⟩) ⟨qR.blind, qrecv hC (hW.to qLV0) rfl, qR.pre hC hW⟩ rfl rfl hl.1 rfl (lv_room (Nat.le_of_ble_eq_true rfl)) dL_standsOn_5 ⟨Nat.le_of_ble_eq_true rfl, Nat.le_of_ble_eq_true rfl⟩) hS (fun _ h => h.elim) (fun locs hS => ?_)
  have hat9 := hat
  refine q_eq0 (tgt := 15) hx hb q_31B dL_standsOn_8 (by decide) (fun c9 => ?_) (fun c9 => ?_)
  · skip
    refine lv_lconst (v := lN 0) hx hb dL_standsOn_15 (by decide) ?_
    refine q_last hx hb hC.1 hat9 (Or.inr rfl) hS 2 rfl (vp_in_nI (n := 0) (by decide) (by decide)) dL_standsOn_16 (fun H2 locs hat2 hsz hoq hS => ?_)
    refine lv_goto (tgt := 24) hx hb dL_standsOn_17 (by decide) ?_
    refine lv_iconst (v := nI 0) hx hb dL_standsOn_24 (by decide) ?_
    exact W.iret hx hb hr (fun t ht _ => ⟨rfl, by rw [ht]; exact ⟨hW.out hzo hoq, _, hat2, by rw [q_o1, c9]⟩, hS.F ht⟩) hS.2.2 dL_standsOn_25
  · skip
    refine lv_lconst (v := 1) hx hb dL_standsOn_11 (by decide) ?_
    refine lv_goto (tgt := 16) hx hb dL_standsOn_12 (by decide) ?_
    refine q_last hx hb hC.1 hat9 (Or.inr rfl) hS 2 rfl (vp_in_nI (n := 0) (by decide) (by decide)) dL_standsOn_16 (fun H2 locs hat2 hsz hoq hS => ?_)
    refine lv_goto (tgt := 24) hx hb dL_standsOn_17 (by decide) ?_
    refine lv_iconst (v := nI 0) hx hb dL_standsOn_24 (by decide) ?_
    exact W.iret hx hb hr (fun t ht _ => ⟨rfl, by rw [ht]; exact ⟨hW.out hzo hoq, _, hat2, by rw [q_o1]; exact q_b1 c9⟩, hS.F ht⟩) hS.2.2 dL_standsOn_25
set_option maxHeartbeats 4000000 in
set_option maxRecDepth 100000 in
theorem k_release (l : Launch) (G : QG) (es : Nat) (A : Nat → Prop) (σ ad : QSt) (hF : qWF σ) (f : Nat) (hf : f < σ 0 3) (h0 : σ 162 f = 0) (h1 : σ 131 (σ 160 f) = 113 ∨ σ 134 (σ 160 f) ≠ f + 1) (hg1 : ∀ l0, l0 < σ 0 0 → σ (1000 + f) l0 = 1 → 1 ≤ σ 70 l0) (hF8 : qWF (qfGu (qup σ 162 f 1) f)) (zo : Nat) (zf : Nat → Int64) (hzo : ¬ A zo) : Met l yL_release wsL_release ({ frames := 7, cells := 0, slots := 0, locals := 156 } : Room) (qLg G es A σ ad zo (.inl (G.2 2, 1, .inr (.inl zf))) [.ref (ad 0 0), .int (nI f), .ref (zo)]) (qWV (some (.int (nI 0))) (fun H => qLW G es A (qfAs (qfGu (qup σ 162 f 1) f) 4).1 ad H ∧ ∃ zf' : Nat → Int64, va_at G.1 vwCl (zo, .inl (G.2 2, 1, .inr (.inl zf'))) H ∧ zf' 0 = (nI (qfAs (qfGu (qup σ 162 f 1) f) 4).2).toInt64) (fun q => A q ∨ q = zo)) 0 0 (fun q => A q ∨ q = zo) := by
  refine q_ofWH (cc := cL_release) (maxL := 4) (ret := (some .int)) (hh := [(0, 9, 12, 21), (0, 9, 15, 15), (0, 9, 18, 92)]) (by decide) rfl ?_
  intro p e s m args below meth c s₁ B hml htab hv
  obtain ⟨rfl, hC, hW, hZ, hA, hzT, hzN, hat⟩ := hv
  have hx := B.exec
  have hb := B.bytes
  have hr := B.returns
  have hts := atoms_spec (ws := wsL_release) B.pre
  have hown : s.vm.findClass RL = some m.cls := findClass_of_methodNamed B.named
  have hlocks := B.notSynchronized
  have hS : va_S (fun q => A q ∨ q = zo) s.heap s.heap [] := va_S.rf
  have hl := lv_entry ([.ref (ad 0 0), .int (nI f), .ref (zo)]) (n := 4) (Nat.le_of_ble_eq_true rfl)
  rw [lg_entry_eq]
  generalize (lg_sl ([.ref (ad 0 0), .int (nI f), .ref (zo)]) ++ List.replicate (4 - (lg_sl ([.ref (ad 0 0), .int (nI f), .ref (zo)])).length) Slot.unset).toArray = ls at hl ⊢
  have hl : lv_has ls 4 [(0, .ref (ad 0 0)), (1, .int (nI f)), (2, .ref (zo))] := hl
  refine lv_aload_n hx hb dL_release_0 rfl (lv_at hl 2 rfl) ?_
  refine lv_iconst (v := nI 0) hx hb dL_release_1 (by decide) ?_
  refine lv_aload_n hx hb dL_release_2 rfl (lv_at hl 0 rfl) ?_
  refine lv_iload_n hx hb dL_release_3 rfl (lv_at hl 1 rfl) ?_
  refine q_wv (va_runV (As := [.int (nI f)]) (rest := [.int (nI 0), .ref (zo)]) ⟨hx, hb, hml, hown, hts⟩ (m_release l G es A σ ad hF f hf h0 h1 hg1 hF8) (cwV 1 hts gL_release_X7_release rfl rfl rfl (by decide +kernel) ⟨Nat.le_of_ble_eq_true rfl, Nat.le_of_ble_eq_true rfl⟩) ⟨qW.blind, qrecv hC (hW.to qLV0) rfl, qW.pre hC hW hZ (va_S.rf (A := A)) (fun _ h => h) hA⟩ rfl rfl hl.1 rfl (lv_room (Nat.le_of_ble_eq_true rfl)) dL_release_4 ⟨Nat.le_of_eq (Nat.zero_add _), Nat.le_of_eq (Nat.zero_add _)⟩) hS (fun _ h => Or.inl h) (fun _ h => Or.inl h) (fun H1 locs hP9 hz hk hS => ?_)
  have hW := hP9
  have hat9 := hat.kept (hk zo hat.lt hzo)
  refine lv_i2l (v := (nI (qfAs (qfGu (qup σ 162 f 1) f) 4).2).toInt64) hx hb dL_release_7 rfl ?_
  refine q_last hx hb hC.1 hat9 (Or.inr rfl) hS 2 rfl (vp_in_nI (n := 0) (by decide) (by decide)) dL_release_8 (fun H2 locs hat2 hsz hoq hS => ?_)
  refine lv_goto (tgt := 21) hx hb dL_release_9 (by decide) ?_
  refine lv_iconst (v := nI 0) hx hb dL_release_21 (by decide) ?_
  exact W.iret hx hb hr (fun t ht _ => ⟨rfl, by rw [ht]; exact ⟨hW.out hzo hoq, _, hat2, q_o1 _ _⟩, hS.F ht⟩) hS.2.2 dL_release_22
set_option maxHeartbeats 4000000 in
set_option maxRecDepth 100000 in
theorem k_isGuarded (l : Launch) (G : QG) (es : Nat) (A : Nat → Prop) (σ ad : QSt) (hF : qWF σ) (i : Nat) (hi : i < σ 0 0) (zo : Nat) (zf : Nat → Int64) (hzo : ¬ A zo) : Met l yL_isGuarded wsL_isGuarded ({ frames := 5, cells := 0, slots := 0, locals := 106 } : Room) (qLg G es A σ ad zo (.inl (G.2 2, 1, .inr (.inl zf))) [.ref (ad 0 0), .int (nI i), .ref (zo)]) (qWV (some (.int (nI 0))) (fun H => qLW G es A σ ad H ∧ ∃ zf' : Nat → Int64, va_at G.1 vwCl (zo, .inl (G.2 2, 1, .inr (.inl zf'))) H ∧ zf' 0 = lN (qB (0 < σ 70 i))) (fun q => A q ∨ q = zo)) 0 0 (fun q => A q ∨ q = zo) := by
  refine q_ofWH (cc := cL_isGuarded) (maxL := 4) (ret := (some .int)) (hh := [(0, 16, 19, 21)]) (by decide) rfl ?_
  intro p e s m args below meth c s₁ B hml htab hv
  obtain ⟨rfl, hC, hW, hZ, hA, hzT, hzN, hat⟩ := hv
  have hx := B.exec
  have hb := B.bytes
  have hr := B.returns
  have hts := atoms_spec (ws := wsL_isGuarded) B.pre
  have hown : s.vm.findClass RL = some m.cls := findClass_of_methodNamed B.named
  have hlocks := B.notSynchronized
  have hS : va_S (fun q => A q ∨ q = zo) s.heap s.heap [] := va_S.rf
  have hl := lv_entry ([.ref (ad 0 0), .int (nI i), .ref (zo)]) (n := 4) (Nat.le_of_ble_eq_true rfl)
  rw [lg_entry_eq]
  generalize (lg_sl ([.ref (ad 0 0), .int (nI i), .ref (zo)]) ++ List.replicate (4 - (lg_sl ([.ref (ad 0 0), .int (nI i), .ref (zo)])).length) Slot.unset).toArray = ls at hl ⊢
  have hl : lv_has ls 4 [(0, .ref (ad 0 0)), (1, .int (nI i)), (2, .ref (zo))] := hl
  refine lv_aload_n hx hb dL_isGuarded_0 rfl (lv_at hl 2 rfl) ?_
  refine lv_iconst (v := nI 0) hx hb dL_isGuarded_1 (by decide) ?_
  refine lv_aload_n hx hb dL_isGuarded_2 rfl (lv_at hl 0 rfl) ?_
  refine lv_iload_n hx hb dL_isGuarded_3 rfl (lv_at hl 1 rfl) ?_
  refine q_v (va_runV (As := [.int (nI i)]) (rest := [.int (nI 0), .ref (zo)]) ⟨hx, hb, hml, hown, hts⟩ (m_isGuarded l G es A σ ad hF i hi) (cwV 1 hts gL_isGuarded_X7_isGuarded rfl rfl rfl (by decide +kernel) ⟨Nat.le_of_ble_eq_true rfl, Nat.le_of_ble_eq_true rfl⟩) ⟨qR.blind, qrecv hC (hW.to qLV0) rfl, qR.pre hC hW⟩ rfl rfl hl.1 rfl (lv_room (Nat.le_of_ble_eq_true rfl)) dL_isGuarded_4 ⟨Nat.le_of_ble_eq_true rfl, Nat.le_of_ble_eq_true rfl⟩) hS (fun _ h => h.elim) (fun locs hS => ?_)
  have hat9 := hat
  refine q_eq0 (tgt := 14) hx hb q_31B dL_isGuarded_7 (by decide) (fun c9 => ?_) (fun c9 => ?_)
  · skip
    refine lv_lconst (v := lN 0) hx hb dL_isGuarded_14 (by decide) ?_
    refine q_last hx hb hC.1 hat9 (Or.inr rfl) hS 2 rfl (vp_in_nI (n := 0) (by decide) (by decide)) dL_isGuarded_15 (fun H2 locs hat2 hsz hoq hS => ?_)
    refine lv_goto (tgt := 22) hx hb dL_isGuarded_16 (by decide) ?_
    refine lv_iconst (v := nI 0) hx hb dL_isGuarded_22 (by decide) ?_
    exact W.iret hx hb hr (fun t ht _ => ⟨rfl, by rw [ht]; exact ⟨hW.out hzo hoq, _, hat2, by rw [q_o1, c9]⟩, hS.F ht⟩) hS.2.2 dL_isGuarded_23
  · skip
    refine lv_lconst (v := 1) hx hb dL_isGuarded_10 (by decide) ?_
    refine lv_goto (tgt := 15) hx hb dL_isGuarded_11 (by decide) ?_
    refine q_last hx hb hC.1 hat9 (Or.inr rfl) hS 2 rfl (vp_in_nI (n := 0) (by decide) (by decide)) dL_isGuarded_15 (fun H2 locs hat2 hsz hoq hS => ?_)
    refine lv_goto (tgt := 22) hx hb dL_isGuarded_16 (by decide) ?_
    refine lv_iconst (v := nI 0) hx hb dL_isGuarded_22 (by decide) ?_
    exact W.iret hx hb hr (fun t ht _ => ⟨rfl, by rw [ht]; exact ⟨hW.out hzo hoq, _, hat2, by rw [q_o1]; exact q_b1 c9⟩, hS.F ht⟩) hS.2.2 dL_isGuarded_23
set_option maxHeartbeats 4000000 in
set_option maxRecDepth 100000 in
theorem k_pass (l : Launch) (G : QG) (es : Nat) (A : Nat → Prop) (σ ad : QSt) (hF : qWF σ) (n0 : Nat) (hn0 : 1 ≤ n0 ∧ n0 ≤ 50) (hnow : σ 1 0 + n0 ≤ 5000) (hT : ∀ i, i < n0 → qTick (qfPs σ i).1) (zo : Nat) (zf : Nat → Int64) (hzo : ¬ A zo) : Met l yL_pass wsL_pass ({ frames := 10, cells := (3 * ((qfPs σ n0).1 0 3 - σ 0 3)), slots := (10 * ((qfPs σ n0).1 0 3 - σ 0 3) + 3 * ((qfPs σ n0).1 32 3 - σ 32 3)), locals := 237 } : Room) (qLg G es A σ ad zo (.inl (G.2 2, 1, .inr (.inl zf))) [.ref (ad 0 0), .int (nI n0), .ref (zo)]) (qWV (some (.int (nI 0))) (fun H => ∃ ad', qAE σ ad ad' ∧ qLW G es A (qfPs σ n0).1 ad' H ∧ ∃ zf' : Nat → Int64, va_at G.1 vwCl (zo, .inl (G.2 2, 1, .inr (.inl zf'))) H ∧ zf' 0 = (nI (qfPs σ n0).2).toInt64) (fun q => A q ∨ q = zo)) (3 * ((qfPs σ n0).1 0 3 - σ 0 3)) (10 * ((qfPs σ n0).1 0 3 - σ 0 3) + 3 * ((qfPs σ n0).1 32 3 - σ 32 3)) (fun q => A q ∨ q = zo) := by
  refine q_ofWH (cc := cL_pass) (maxL := 4) (ret := (some .int)) (hh := [(0, 9, 12, 13), (0, 9, 15, 15)]) (by decide) rfl ?_
  intro p e s m args below meth c s₁ B hml htab hv
  obtain ⟨rfl, hC, hW, hZ, hA, hzT, hzN, hat⟩ := hv
  have hx := B.exec
  have hb := B.bytes
  have hr := B.returns
  have hts := atoms_spec (ws := wsL_pass) B.pre
  have hown : s.vm.findClass RL = some m.cls := findClass_of_methodNamed B.named
  have hlocks := B.notSynchronized
  have hS : va_S (fun q => A q ∨ q = zo) s.heap s.heap [] := va_S.rf
  have hl := lv_entry ([.ref (ad 0 0), .int (nI n0), .ref (zo)]) (n := 4) (Nat.le_of_ble_eq_true rfl)
  rw [lg_entry_eq]
  generalize (lg_sl ([.ref (ad 0 0), .int (nI n0), .ref (zo)]) ++ List.replicate (4 - (lg_sl ([.ref (ad 0 0), .int (nI n0), .ref (zo)])).length) Slot.unset).toArray = ls at hl ⊢
  have hl : lv_has ls 4 [(0, .ref (ad 0 0)), (1, .int (nI n0)), (2, .ref (zo))] := hl
  refine lv_aload_n hx hb dL_pass_0 rfl (lv_at hl 2 rfl) ?_
  refine lv_iconst (v := nI 0) hx hb dL_pass_1 (by decide) ?_
  refine lv_aload_n hx hb dL_pass_2 rfl (lv_at hl 0 rfl) ?_
  refine lv_iload_n hx hb dL_pass_3 rfl (lv_at hl 1 rfl) ?_
  refine q_wv (va_runV (As := [.int (nI n0)]) (rest := [.int (nI 0), .ref (zo)]) ⟨hx, hb, hml, hown, hts⟩ (m_pass l G es A σ ad hF n0 hn0 hnow hT) (cwV 1 hts gL_pass_X7_pass rfl rfl rfl (by decide +kernel) ⟨Nat.le_of_ble_eq_true rfl, Nat.le_of_ble_eq_true rfl⟩) ⟨qW.blind, qrecv hC (hW.to qLV0) rfl, qW.pre hC hW hZ (va_S.rf (A := A)) (fun _ h => h) hA⟩ rfl rfl hl.1 rfl (lv_room (Nat.le_of_ble_eq_true rfl)) dL_pass_4 ⟨Nat.le_of_eq (Nat.zero_add _), Nat.le_of_eq (Nat.zero_add _)⟩) hS (fun _ h => Or.inl h) (fun _ h => Or.inl h) (fun H1 locs hP9 hz hk hS => ?_)
  obtain ⟨ad', hAE, hW⟩ := hP9
  have hat9 := hat.kept (hk zo hat.lt hzo)
  refine lv_i2l (v := (nI (qfPs σ n0).2).toInt64) hx hb dL_pass_7 rfl ?_
  refine q_last hx hb hC.1 hat9 (Or.inr rfl) hS 2 rfl (vp_in_nI (n := 0) (by decide) (by decide)) dL_pass_8 (fun H2 locs hat2 hsz hoq hS => ?_)
  refine lv_goto (tgt := 18) hx hb dL_pass_9 (by decide) ?_
  refine lv_iconst (v := nI 0) hx hb dL_pass_18 (by decide) ?_
  refine W.widen (k := (3 * ((qfPs σ n0).1 0 3 - σ 0 3))) (n := (10 * ((qfPs σ n0).1 0 3 - σ 0 3) + 3 * ((qfPs σ n0).1 32 3 - σ 32 3))) (Nat.le_of_eq (Nat.zero_add _)) (Nat.le_of_eq (Nat.zero_add _)) ?_
  exact W.iret hx hb hr (fun t ht _ => ⟨rfl, by rw [ht]; exact ⟨ad', hAE, hW.out hzo hoq, _, hat2, q_o1 _ _⟩, hS.F ht⟩) hS.2.2 dL_pass_19
set_option maxHeartbeats 4000000 in
set_option maxRecDepth 100000 in
theorem k_droppedShare (l : Launch) (G : QG) (es : Nat) (A : Nat → Prop) (σ ad : QSt) (hF : qWF σ) (h0 : 0 < σ 0 0) (zo : Nat) (zf : Nat → UInt64) (hzo : ¬ A zo) : Met l yL_droppedShare wsL_droppedShare ({ frames := 4, cells := 0, slots := 0, locals := 87 } : Room) (qLg G es A σ ad zo (.inl (G.2 5, 1, .inr (.inr (.inr (.inl zf))))) [.ref (ad 0 0), .ref (zo)]) (qWV (some (.int (nI 0))) (fun H => qLW G es A σ ad H ∧ ∃ zf' : Nat → UInt64, va_at G.1 vwCl (zo, .inl (G.2 5, 1, .inr (.inr (.inr (.inl zf'))))) H ∧ zf' 0 = FP.f2d (FP.fdiv (FP.i2f (nI (qsum (fun l => qB (σ 69 l = 100)) (σ 0 0)))) (FP.i2f (nI (σ 0 0))))) (fun q => A q ∨ q = zo)) 0 0 (fun q => A q ∨ q = zo) := by
  refine q_ofWH (cc := cL_droppedShare) (maxL := 3) (ret := (some .int)) (hh := [(0, 8, 11, 105)]) (by decide) rfl ?_
  intro p e s m args below meth c s₁ B hml htab hv
  obtain ⟨rfl, hC, hW, hZ, hA, hzT, hzN, hat⟩ := hv
  have hx := B.exec
  have hb := B.bytes
  have hr := B.returns
  have hts := atoms_spec (ws := wsL_droppedShare) B.pre
  have hown : s.vm.findClass RL = some m.cls := findClass_of_methodNamed B.named
  have hlocks := B.notSynchronized
  have hS : va_S (fun q => A q ∨ q = zo) s.heap s.heap [] := va_S.rf
  have hl := lv_entry ([.ref (ad 0 0), .ref (zo)]) (n := 3) (Nat.le_of_ble_eq_true rfl)
  rw [lg_entry_eq]
  generalize (lg_sl ([.ref (ad 0 0), .ref (zo)]) ++ List.replicate (3 - (lg_sl ([.ref (ad 0 0), .ref (zo)])).length) Slot.unset).toArray = ls at hl ⊢
  have hl : lv_has ls 3 [(0, .ref (ad 0 0)), (1, .ref (zo))] := hl
  refine lv_aload_n hx hb dL_droppedShare_0 rfl (lv_at hl 1 rfl) ?_
  refine lv_iconst (v := nI 0) hx hb dL_droppedShare_1 (by decide) ?_
  refine lv_aload_n hx hb dL_droppedShare_2 rfl (lv_at hl 0 rfl) ?_
  refine q_v (va_runV (As := []) (rest := [.int (nI 0), .ref (zo)]) ⟨hx, hb, hml, hown, hts⟩ (m_droppedShare l G es A σ ad hF h0) (cwV 0 hts gL_droppedShare_X7_droppedShare rfl rfl rfl (by decide +kernel) ⟨Nat.le_of_ble_eq_true rfl, Nat.le_of_ble_eq_true rfl⟩) ⟨qR.blind, qrecv hC (hW.to qLV0) rfl, qR.pre hC hW⟩ rfl rfl hl.1 rfl (lv_room (Nat.le_of_ble_eq_true rfl)) dL_droppedShare_3 ⟨Nat.le_of_ble_eq_true rfl, Nat.le_of_ble_eq_true rfl⟩) hS (fun _ h => h.elim) (fun locs hS => ?_)
  have hat9 := hat
  refine lv_f2d hx hb dL_droppedShare_6 (rfl_f2d (rfl_fdiv _ (nI_ne0 h0 (by have := hF.n; omega)))) ?_
  refine q_dast hx hb hC.1 hat9 (Or.inr rfl) hS 5 rfl (vp_in_nI (n := 0) (by decide) (by decide)) dL_droppedShare_7 (fun H2 locs hat2 hsz hoq hS => ?_)
  refine lv_goto (tgt := 14) hx hb dL_droppedShare_8 (by decide) ?_
  refine lv_iconst (v := nI 0) hx hb dL_droppedShare_14 (by decide) ?_
  exact W.iret hx hb hr (fun t ht _ => ⟨rfl, by rw [ht]; exact ⟨hW.out hzo hoq, _, hat2, q_o2 _ _⟩, hS.F ht⟩) hS.2.2 dL_droppedShare_15
set_option maxHeartbeats 4000000 in
set_option maxRecDepth 100000 in
theorem k_meanRank (l : Launch) (G : QG) (es : Nat) (A : Nat → Prop) (σ ad : QSt) (hF : qWF σ) (h0 : 0 < qsum (fun l => qB (σ 69 l = 107)) (σ 0 0)) (zo : Nat) (zf : Nat → UInt64) (hzo : ¬ A zo) : Met l yL_meanRank wsL_meanRank ({ frames := 4, cells := 0, slots := 0, locals := 88 } : Room) (qLg G es A σ ad zo (.inl (G.2 5, 1, .inr (.inr (.inr (.inl zf))))) [.ref (ad 0 0), .ref (zo)]) (qWV (some (.int (nI 0))) (fun H => qLW G es A σ ad H ∧ ∃ zf' : Nat → UInt64, va_at G.1 vwCl (zo, .inl (G.2 5, 1, .inr (.inr (.inr (.inl zf'))))) H ∧ zf' 0 = FP.ddiv (FP.i2d (nI (qsum (fun l => if σ 69 l = 107 then σ 65 l else 0) (σ 0 0)))) (FP.i2d (nI (qsum (fun l => qB (σ 69 l = 107)) (σ 0 0))))) (fun q => A q ∨ q = zo)) 0 0 (fun q => A q ∨ q = zo) := by
  refine q_ofWH (cc := cL_meanRank) (maxL := 3) (ret := (some .int)) (hh := [(0, 7, 10, 105)]) (by decide) rfl ?_
  intro p e s m args below meth c s₁ B hml htab hv
  obtain ⟨rfl, hC, hW, hZ, hA, hzT, hzN, hat⟩ := hv
  have hx := B.exec
  have hb := B.bytes
  have hr := B.returns
  have hts := atoms_spec (ws := wsL_meanRank) B.pre
  have hown : s.vm.findClass RL = some m.cls := findClass_of_methodNamed B.named
  have hlocks := B.notSynchronized
  have hS : va_S (fun q => A q ∨ q = zo) s.heap s.heap [] := va_S.rf
  have hl := lv_entry ([.ref (ad 0 0), .ref (zo)]) (n := 3) (Nat.le_of_ble_eq_true rfl)
  rw [lg_entry_eq]
  generalize (lg_sl ([.ref (ad 0 0), .ref (zo)]) ++ List.replicate (3 - (lg_sl ([.ref (ad 0 0), .ref (zo)])).length) Slot.unset).toArray = ls at hl ⊢
  have hl : lv_has ls 3 [(0, .ref (ad 0 0)), (1, .ref (zo))] := hl
  refine lv_aload_n hx hb dL_meanRank_0 rfl (lv_at hl 1 rfl) ?_
  refine lv_iconst (v := nI 0) hx hb dL_meanRank_1 (by decide) ?_
  refine lv_aload_n hx hb dL_meanRank_2 rfl (lv_at hl 0 rfl) ?_
  refine q_v (va_runV (As := []) (rest := [.int (nI 0), .ref (zo)]) ⟨hx, hb, hml, hown, hts⟩ (m_meanRank l G es A σ ad hF h0) (cwV 0 hts gL_meanRank_X7_meanRank rfl rfl rfl (by decide +kernel) ⟨Nat.le_of_ble_eq_true rfl, Nat.le_of_ble_eq_true rfl⟩) ⟨qR.blind, qrecv hC (hW.to qLV0) rfl, qR.pre hC hW⟩ rfl rfl hl.1 rfl (lv_room (Nat.le_of_ble_eq_true rfl)) dL_meanRank_3 ⟨Nat.le_of_ble_eq_true rfl, Nat.le_of_ble_eq_true rfl⟩) hS (fun _ h => h.elim) (fun locs hS => ?_)
  have hat9 := hat
  refine q_dast hx hb hC.1 hat9 (Or.inr rfl) hS 5 rfl (vp_in_nI (n := 0) (by decide) (by decide)) dL_meanRank_6 (fun H2 locs hat2 hsz hoq hS => ?_)
  refine lv_goto (tgt := 13) hx hb dL_meanRank_7 (by decide) ?_
  refine lv_iconst (v := nI 0) hx hb dL_meanRank_13 (by decide) ?_
  exact W.iret hx hb hr (fun t ht _ => ⟨rfl, by rw [ht]; exact ⟨hW.out hzo hoq, _, hat2, q_o2 _ _⟩, hS.F ht⟩) hS.2.2 dL_meanRank_14
