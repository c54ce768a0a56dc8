/-! rows of the law's own: what was there at the start is as it was -/
def qHo (H0 H : Heap) : Prop := H0.size ≤ H.size ∧ ∀ q : Nat, q < H0.size → H[q]? = H0[q]?
theorem qHo.rf {H : Heap} : qHo H H := ⟨Nat.le_refl _, fun _ _ => rfl⟩
theorem qHo.ext {H0 H H1 : Heap} (h : qHo H0 H) (hz : H.size ≤ H1.size) (hk : ∀ q : Nat, q < H.size → H1[q]? = H[q]?) : qHo H0 H1 := ⟨Nat.le_trans h.1 hz, fun q hq => (hk q (Nat.lt_of_lt_of_le hq h.1)).trans (h.2 q hq)⟩
theorem qHo.put {H0 H H1 : Heap} {a : Nat} (h : qHo H0 H) (hz : H1.size = H.size) (hoq : ∀ q : Nat, q ≠ a → H1[q]? = H[q]?) (ha : H0.size ≤ a) : qHo H0 H1 := ⟨by rw [hz]; exact h.1, fun q hq => (hoq q (by omega)).trans (h.2 q hq)⟩
theorem qHo.up {H0 H : Heap} {A : Nat → Prop} (h : qHo H0 H) (hA : ∀ q, H0.size ≤ q → A q) : ∀ q, H.size ≤ q → A q := fun q hq => hA q (Nat.le_trans h.1 hq)
theorem l_idx {f : Nat → Int32} {n : Nat} {x : Int32} (h : n < 1073741824) : upd f (nI n).toNatClampNeg x = upd f n x := by rw [nI_clamp (by omega)]
/-- the law's own row of what came: seven numbers a line -/
def jM (σ : QSt) (mf : Nat → Int32) : Prop := ∀ l, l < σ 0 0 → mf (7 * l) = nI (σ 64 l) ∧ (∀ k, k < 3 → mf (7 * l + 2 + k) = nI (σ (80 + k) l)) ∧ mf (7 * l + 1) = nI (σ 65 l) ∧ mf (7 * l + 5) = nI (σ 66 l) ∧ mf (7 * l + 6) = nI (σ 67 l)
set_option maxHeartbeats 4000000 in
set_option maxRecDepth 100000 in
theorem k_arePatterns (l : Launch) (hst : l.stackTraces = false) (G : QG) (es : Nat) (A : Nat → Prop) (σ ad : QSt) (hv : zIv σ) (hj : jI σ) (zm : Nat) (mf : Nat → Int32) (hM : jM σ mf) : Met l yL_arePatterns wsL_arePatterns ({ frames := 10, cells := 410, slots := 3300, locals := 175 } : Room) (qLp G es A σ ad [(zm, .inl (G.2 1, 1400, .inl mf))] [.ref (ad 0 0), .ref (zm), .int (nI (σ 0 0))]) (qAP (some (.int (nI 1)))) 410 3300 A := by
  refine Met.ofW (cc := cL_arePatterns) (maxL := 14) (ret := (some .boolean)) (by decide) rfl ?_
  intro p e s m args below meth c s₁ B hml hv
  obtain ⟨rfl, hC, hW0, hZ, hA, hT, hN, hP9⟩ := hv
  have hx := B.exec
  have hb := B.bytes
  have hr := B.returns
  have hts := atoms_spec (ws := wsL_arePatterns) B.pre
  have hown : s.vm.findClass RL = some m.cls := findClass_of_methodNamed B.named
  have hlocks := B.notSynchronized
  have hF := hv.1.wf
  have hn := hF.n
  have hB := hF.1
  have hat_m := hP9 0 _ rfl
  have hS : va_S A s.heap s.heap [] := va_S.rf
  have hl := lv_entry ([.ref (ad 0 0), .ref (zm), .int (nI (σ 0 0))]) (n := 14) (Nat.le_of_ble_eq_true rfl)
  rw [lg_entry_eq]
  generalize (lg_sl ([.ref (ad 0 0), .ref (zm), .int (nI (σ 0 0))]) ++ List.replicate (14 - (lg_sl ([.ref (ad 0 0), .ref (zm), .int (nI (σ 0 0))])).length) Slot.unset).toArray = ls at hl ⊢
  have hl : lv_has ls 14 [(0, .ref (ad 0 0)), (1, .ref (zm)), (2, .int (nI (σ 0 0)))] := hl
  have ho : qHo s.heap s.heap := qHo.rf
  have hl_m := hat_m.lt
  refine lv_aload_n hx hb dL_arePatterns_0 rfl (lv_at hl 0 rfl) ?_
  refine lv_iconst (v := nI 1) hx hb dL_arePatterns_1 (by decide) ?_
  refine lv_iload_n hx hb dL_arePatterns_2 rfl (lv_at hl 2 rfl) ?_
  refine lv_iconst (v := nI 0) hx hb dL_arePatterns_3 (by decide) ?_
  refine q_ask (vx_runSW (As := [.ref (ad 0 0), .int (nI 1), .int (nI (σ 0 0)), .int (nI 0)]) (rest := []) ⟨hx, hb, hml, hown, hts⟩ (bx_patternOf1 l hst G es A σ ad hF (nI (σ 0 0)) (l_rInn (hB _ _)) (nI 0)) (vx_cwSW 4 hts gL_arePatterns_L_ask rfl rfl rfl (by decide +kernel) ⟨Nat.le_of_ble_eq_true rfl, Nat.le_of_ble_eq_true rfl⟩) ⟨qAk.blind, qAk.pre hC (hW0.same ho.2) (hZ.kept hS.2.1) (ho.up hA) hT hN⟩ rfl rfl hl.1 rfl (lv_room (Nat.le_of_ble_eq_true rfl)) dL_arePatterns_4 ⟨by show 0 + 1 ≤ 410; omega, by show 0 + 6 ≤ 3300; omega⟩) hS (fun _ h => h) (fun H1 locs hz hk hS => ?_)
  have ho := ho.ext hz hk
  have hat_m := hat_m.kept (hk _ hat_m.lt)
  refine lv_sipush (v := -2005) hx hb dL_arePatterns_7 (by decide) ?_
  refine q_neP (P := True) (tgt := 43) hx hb (iff_of_true rfl trivial) dL_arePatterns_10 (by decide) (fun c1 => absurd trivial c1) (fun c1 => ?_)
  refine lv_aload_n hx hb dL_arePatterns_13 rfl (lv_at hl 0 rfl) ?_
  refine lv_iconst (v := nI 4) hx hb dL_arePatterns_14 (by decide) ?_
  refine lv_iconst (v := -1) hx hb dL_arePatterns_15 (by decide) ?_
  refine lv_iconst (v := nI 0) hx hb dL_arePatterns_16 (by decide) ?_
  refine q_ask (vx_runSW (As := [.ref (ad 0 0), .int (nI 4), .int (-1), .int (nI 0)]) (rest := []) ⟨hx, hb, hml, hown, hts⟩ (bx_linesOf1 l hst G es A σ ad hF (-1) (l_rInm (hB _ _)) (nI 0)) (vx_cwSW 4 hts gL_arePatterns_L_ask rfl rfl rfl (by decide +kernel) ⟨Nat.le_of_ble_eq_true rfl, Nat.le_of_ble_eq_true rfl⟩) ⟨qAk.blind, qAk.pre hC (hW0.same ho.2) (hZ.kept hS.2.1) (ho.up hA) hT hN⟩ rfl rfl hl.1 rfl (lv_room (Nat.le_of_ble_eq_true rfl)) dL_arePatterns_17 ⟨by show 0 + 1 + 1 ≤ 410; omega, by show 0 + 6 + 6 ≤ 3300; omega⟩) hS (fun _ h => h) (fun H2 locs hz hk hS => ?_)
  have ho := ho.ext hz hk
  have hat_m := hat_m.kept (hk _ hat_m.lt)
  refine lv_sipush (v := -2005) hx hb dL_arePatterns_20 (by decide) ?_
  refine q_neP (P := True) (tgt := 43) hx hb (iff_of_true rfl trivial) dL_arePatterns_23 (by decide) (fun c1 => absurd trivial c1) (fun c1 => ?_)
  refine lv_aload_n hx hb dL_arePatterns_26 rfl (lv_at hl 0 rfl) ?_
  refine lv_iconst (v := nI 2) hx hb dL_arePatterns_27 (by decide) ?_
  refine lv_iconst (v := nI 4) hx hb dL_arePatterns_28 (by decide) ?_
  refine lv_iconst (v := nI 0) hx hb dL_arePatterns_29 (by decide) ?_
  refine q_ask (vx_runSW (As := [.ref (ad 0 0), .int (nI 2), .int (nI 4), .int (nI 0)]) (rest := []) ⟨hx, hb, hml, hown, hts⟩ (bx_patterns1 l hst G es A σ ad hF (nI 4) (by decide) (nI 0)) (vx_cwSW 4 hts gL_arePatterns_L_ask rfl rfl rfl (by decide +kernel) ⟨Nat.le_of_ble_eq_true rfl, Nat.le_of_ble_eq_true rfl⟩) ⟨qAk.blind, qAk.pre hC (hW0.same ho.2) (hZ.kept hS.2.1) (ho.up hA) hT hN⟩ rfl rfl hl.1 rfl (lv_room (Nat.le_of_ble_eq_true rfl)) dL_arePatterns_30 ⟨by show 0 + 1 + 1 + 1 ≤ 410; omega, by show 0 + 6 + 6 + 6 ≤ 3300; omega⟩) hS (fun _ h => h) (fun H3 locs hz hk hS => ?_)
  have ho := ho.ext hz hk
  have hat_m := hat_m.kept (hk _ hat_m.lt)
  refine lv_sipush (v := -2002) hx hb dL_arePatterns_33 (by decide) ?_
  refine q_neP (P := True) (tgt := 43) hx hb (iff_of_true rfl trivial) dL_arePatterns_36 (by decide) (fun c1 => absurd trivial c1) (fun c1 => ?_)
  refine lv_iconst (v := nI 1) hx hb dL_arePatterns_39 (by decide) ?_
  refine lv_goto (tgt := 44) hx hb dL_arePatterns_40 (by decide) ?_
  refine lv_istore_n (lv' := [(3, .int (nI 1)), (0, .ref (ad 0 0)), (1, .ref (zm)), (2, .int (nI (σ 0 0)))]) hx hb dL_arePatterns_44 rfl hl (by decide) rfl (fun ls hl => ?_)
  refine lv_sipush (v := nI 200) hx hb dL_arePatterns_45 (by decide) ?_
  refine q_newa (atype := .int) (ty := .int) (cA0 := G.2 1) hx hb (hts (.arrayClass .int) (List.mem_of_getElem? (i := 1) (by decide +kernel))) rfl hC.1 1 rfl (fun C z => by cases z) hS (n := nI 200) (N' := 200) (200, .inl (fun _ => 0)) (fun cA => (vp_cell_i cA 200 _).trans (congrArg (arrV cA 200) (funext fun _ => rfl))) (nI_pos (by decide)) (nI_clamp (by decide)) (by show 200 * 4 ≤ 536870912; omega) (by show 0 + 1 + 1 + 1 + 1 ≤ 410; omega) (by show 0 + 6 + 6 + 6 + 200 ≤ 3300; omega) dL_arePatterns_48 (fun H4 hat_src hz_src hk hS => ?_)
  have hl_src_m : zm < H3.size := hat_m.lt
  have hat_m := hat_m.kept (hk _ hat_m.lt)
  have hx_src : s.heap.size ≤ H3.size := ho.1
  have ho := ho.ext (Nat.le_of_lt (by omega : H3.size < H4.size)) hk
  refine lv_astore (lv' := [(4, .ref (H3.size)), (3, .int (nI 1)), (0, .ref (ad 0 0)), (1, .ref (zm)), (2, .int (nI (σ 0 0)))]) hx hb dL_arePatterns_50 hl (by decide) rfl (fun ls hl => ?_)
  refine lv_sipush (v := nI 600) hx hb dL_arePatterns_52 (by decide) ?_
  refine q_newa (atype := .int) (ty := .int) (cA0 := G.2 1) hx hb (hts (.arrayClass .int) (List.mem_of_getElem? (i := 1) (by decide +kernel))) rfl hC.1 1 rfl (fun C z => by cases z) hS (n := nI 600) (N' := 600) (600, .inl (fun _ => 0)) (fun cA => (vp_cell_i cA 600 _).trans (congrArg (arrV cA 600) (funext fun _ => rfl))) (nI_pos (by decide)) (nI_clamp (by decide)) (by show 600 * 4 ≤ 536870912; omega) (by show 0 + 1 + 1 + 1 + 1 + 1 ≤ 410; omega) (by show 0 + 6 + 6 + 6 + 200 + 600 ≤ 3300; omega) dL_arePatterns_55 (fun H5 hat_wds hz_wds hk hS => ?_)
  have hl_wds_m : zm < H4.size := hat_m.lt
  have hat_m := hat_m.kept (hk _ hat_m.lt)
  have hl_wds_src : H3.size < H4.size := hat_src.lt
  have hat_src := hat_src.kept (hk _ hat_src.lt)
  have hx_wds : s.heap.size ≤ H4.size := ho.1
  have ho := ho.ext (Nat.le_of_lt (by omega : H4.size < H5.size)) hk
  refine lv_astore (lv' := [(5, .ref (H4.size)), (4, .ref (H3.size)), (3, .int (nI 1)), (0, .ref (ad 0 0)), (1, .ref (zm)), (2, .int (nI (σ 0 0)))]) hx hb dL_arePatterns_57 hl (by decide) rfl (fun ls hl => ?_)
  refine lv_iconst (v := nI 0) hx hb dL_arePatterns_59 (by decide) ?_
  refine lv_istore (lv' := [(6, .int (nI 0)), (5, .ref (H4.size)), (4, .ref (H3.size)), (3, .int (nI 1)), (0, .ref (ad 0 0)), (1, .ref (zm)), (2, .int (nI (σ 0 0)))]) hx hb dL_arePatterns_60 hl (by decide) rfl (fun ls hl => ?_)
  refine lv_iconst (v := nI 0) hx hb dL_arePatterns_62 (by decide) ?_
  refine lv_istore (lv' := [(7, .int (nI 0)), (6, .int (nI 0)), (5, .ref (H4.size)), (4, .ref (H3.size)), (3, .int (nI 1)), (0, .ref (ad 0 0)), (1, .ref (zm)), (2, .int (nI (σ 0 0)))]) hx hb dL_arePatterns_63 hl (by decide) rfl (fun ls hl => ?_)
  refine lv_iconst (v := nI 0) hx hb dL_arePatterns_65 (by decide) ?_
  refine lv_istore (lv' := [(8, .int (nI 0)), (7, .int (nI 0)), (6, .int (nI 0)), (5, .ref (H4.size)), (4, .ref (H3.size)), (3, .int (nI 1)), (0, .ref (ad 0 0)), (1, .ref (zm)), (2, .int (nI (σ 0 0)))]) hx hb dL_arePatterns_66 hl (by decide) rfl (fun ls hl => ?_)
  refine W.widen (k := (5 + 0)) (n := (818 + 6 * 0)) (by omega) (by omega) ?_
  refine q_upF (σ 0 0) (fun i => (5 + i)) (fun i => (818 + 6 * i)) (fun i H locs ls => qHo s.heap H ∧ va_S A s.heap H locs ∧ ∃ (mn : Nat), (mn ≤ σ 0 1 ∧ ∀ l9, l9 < i → σ 68 l9 < mn) ∧ ∃ (gs : Nat → Int32), (∀ l9, l9 < i → gs (σ 68 l9) = nI (σ 64 l9)) ∧ va_at G.1 vwCl (zm, .inl (G.2 1, 1400, .inl mf)) H ∧ va_at G.1 vwCl (H3.size, .inl (G.2 1, 200, .inl gs)) H ∧ va_at G.1 vwCl (H4.size, .inl (G.2 1, 600, .inl (fun _ => 0))) H ∧ lv_has ls 14 [(0, .ref (ad 0 0)), (1, .ref (zm)), (2, .int (nI (σ 0 0))), (3, .int (nI 1)), (4, .ref (H3.size)), (5, .ref (H4.size)), (6, .int (nI mn)), (7, .int (nI 0)), (8, .int (nI i))]) ?_ ?_ (i0 := 0) (Nat.zero_le _) ⟨ho, hS, 0, ⟨Nat.zero_le _, fun _ z => absurd z (Nat.not_lt_zero _)⟩, (fun _ => 0), fun _ z => absurd z (Nat.not_lt_zero _), hat_m, hat_src, hat_wds, lv_sub hl [6, 7, 8, 5, 4, 3, 2, 1, 0] rfl⟩
  · rintro H6 locs ls ⟨ho, hS, mn, e_mn, gs, e_gs, hat_m, hat_src, hat_wds, hl⟩
    refine lv_iload hx hb dL_arePatterns_68 (lv_at hl 8 rfl) ?_
    refine lv_iload_n hx hb dL_arePatterns_70 rfl (lv_at hl 2 rfl) ?_
    refine q_ge (tgt := 200) hx hb (q31 (hB _ _)) (q31 (hB _ _)) dL_arePatterns_71 (by decide) (fun g1 => ?_) (fun g1 => (by omega))
    obtain ⟨hmn1, hmn2⟩ := e_mn
    have hsrc : ∀ p9, p9 < σ 0 1 → σ 97 p9 = 0 → gs p9 = nI (σ 96 p9) ∧ p9 < mn := fun p9 h1 h2 => by
      obtain ⟨l9, h3, h4⟩ := hj.2.2.1 p9 h1 h2
      subst h4
      rw [e_gs l9 h3, (hv.1.ip.2.1 l9 h3).2.1]
      exact ⟨rfl, hmn2 l9 h3⟩
    refine lv_iconst (v := nI 4) hx hb dL_arePatterns_200 (by decide) ?_
    refine q_newa (atype := .int) (ty := .int) (cA0 := G.2 1) hx hb (hts (.arrayClass .int) (List.mem_of_getElem? (i := 1) (by decide +kernel))) rfl hC.1 1 rfl (fun C z => by cases z) hS (n := nI 4) (N' := 4) (4, .inl (fun _ => 0)) (fun cA => (vp_cell_i cA 4 _).trans (congrArg (arrV cA 4) (funext fun _ => rfl))) (nI_pos (by decide)) (nI_clamp (by decide)) (by show 4 * 4 ≤ 536870912; omega) (by show (5 + (σ 0 0)) + 1 ≤ 410; omega) (by show (818 + 6 * (σ 0 0)) + 4 ≤ 3300; omega) dL_arePatterns_201 (fun H7 hat_alv hz_alv hk hS => ?_)
    have hl_alv_m : zm < H6.size := hat_m.lt
    have hat_m := hat_m.kept (hk _ hat_m.lt)
    have hl_alv_src : H3.size < H6.size := hat_src.lt
    have hat_src := hat_src.kept (hk _ hat_src.lt)
    have hl_alv_wds : H4.size < H6.size := hat_wds.lt
    have hat_wds := hat_wds.kept (hk _ hat_wds.lt)
    have hx_alv : s.heap.size ≤ H6.size := ho.1
    have ho := ho.ext (Nat.le_of_lt (by omega : H6.size < H7.size)) hk
    refine lv_astore (lv' := [(8, .ref (H6.size)), (0, .ref (ad 0 0)), (1, .ref (zm)), (2, .int (nI (σ 0 0))), (3, .int (nI 1)), (4, .ref (H3.size)), (5, .ref (H4.size)), (6, .int (nI mn)), (7, .int (nI 0))]) hx hb dL_arePatterns_203 hl (by decide) rfl (fun ls hl => ?_)
    refine lv_iconst (v := nI 0) hx hb dL_arePatterns_205 (by decide) ?_
    refine lv_istore (lv' := [(9, .int (nI 0)), (8, .ref (H6.size)), (0, .ref (ad 0 0)), (1, .ref (zm)), (2, .int (nI (σ 0 0))), (3, .int (nI 1)), (4, .ref (H3.size)), (5, .ref (H4.size)), (6, .int (nI mn)), (7, .int (nI 0))]) hx hb dL_arePatterns_206 hl (by decide) rfl (fun ls hl => ?_)
    refine W.widen (k := (206 + 0)) (n := (2022 + 6 * 0)) (by omega) (by omega) ?_
    refine q_upF mn (fun i => (206 + i)) (fun i => (2022 + 6 * i)) (fun i H locs ls => qHo s.heap H ∧ va_S A s.heap H locs ∧ ∃ (al : Nat), (al = qsum (jQ σ) i) ∧ ∃ (hw : Nat → Int32), (∀ p9, p9 < i → ∀ k9, k9 < 3 → hw (3 * p9 + k9) = jWd σ p9 k9) ∧ ∃ (ev : Nat → Int32), (∀ s9, s9 < 4 → ev s9 = nI (qsum (fun p9 => qB (σ 96 p9 = s9 ∧ σ 97 p9 = 0)) i)) ∧ va_at G.1 vwCl (zm, .inl (G.2 1, 1400, .inl mf)) H ∧ va_at G.1 vwCl (H3.size, .inl (G.2 1, 200, .inl gs)) H ∧ va_at G.1 vwCl (H4.size, .inl (G.2 1, 600, .inl hw)) H ∧ va_at G.1 vwCl (H6.size, .inl (G.2 1, 4, .inl ev)) H ∧ lv_has ls 14 [(0, .ref (ad 0 0)), (1, .ref (zm)), (2, .int (nI (σ 0 0))), (3, .int (nI 1)), (4, .ref (H3.size)), (5, .ref (H4.size)), (6, .int (nI mn)), (7, .int (nI al)), (8, .ref (H6.size)), (9, .int (nI i))]) ?_ ?_ (i0 := 0) (Nat.zero_le _) ⟨ho, hS, 0, rfl, (fun _ => 0), fun _ z => absurd z (Nat.not_lt_zero _), (fun _ => 0), fun _ _ => rfl, hat_m, hat_src, hat_wds, hat_alv, lv_sub hl [2, 3, 4, 5, 6, 7, 8, 9, 1, 0] rfl⟩
    · rintro H8 locs ls ⟨ho, hS, al, e_al, hw, e_hw, ev, e_ev, hat_m, hat_src, hat_wds, hat_alv, hl⟩
      refine lv_iload hx hb dL_arePatterns_208 (lv_at hl 9 rfl) ?_
      refine lv_iload hx hb dL_arePatterns_210 (lv_at hl 6 rfl) ?_
      refine q_ge (tgt := 520) hx hb (by omega) (by omega) dL_arePatterns_212 (by decide) (fun g2 => ?_) (fun g2 => (by omega))
      have hal := e_al.trans (jQ_all hv hmn2)
      refine lv_iconst (v := nI 0) hx hb dL_arePatterns_520 (by decide) ?_
      refine lv_istore (lv' := [(9, .int (nI 0)), (0, .ref (ad 0 0)), (1, .ref (zm)), (2, .int (nI (σ 0 0))), (3, .int (nI 1)), (4, .ref (H3.size)), (5, .ref (H4.size)), (6, .int (nI mn)), (7, .int (nI al)), (8, .ref (H6.size))]) hx hb dL_arePatterns_521 hl (by decide) rfl (fun ls hl => ?_)
      refine q_up 4 (fun k H locs ls => qHo s.heap H ∧ va_S A s.heap H locs ∧ va_at G.1 vwCl (zm, .inl (G.2 1, 1400, .inl mf)) H ∧ va_at G.1 vwCl (H3.size, .inl (G.2 1, 200, .inl gs)) H ∧ va_at G.1 vwCl (H4.size, .inl (G.2 1, 600, .inl hw)) H ∧ va_at G.1 vwCl (H6.size, .inl (G.2 1, 4, .inl ev)) H ∧ lv_has ls 14 [(0, .ref (ad 0 0)), (1, .ref (zm)), (2, .int (nI (σ 0 0))), (3, .int (nI 1)), (4, .ref (H3.size)), (5, .ref (H4.size)), (6, .int (nI mn)), (7, .int (nI al)), (8, .ref (H6.size)), (9, .int (nI k))]) ?_ ?_ (i0 := 0) (Nat.zero_le _) ⟨ho, hS, hat_m, hat_src, hat_wds, hat_alv, lv_sub hl [1, 2, 3, 4, 5, 6, 7, 8, 9, 0] rfl⟩
      · rintro H9 locs ls ⟨ho, hS, hat_m, hat_src, hat_wds, hat_alv, hl⟩
        refine lv_iload hx hb dL_arePatterns_523 (lv_at hl 9 rfl) ?_
        refine lv_iconst (v := nI 4) hx hb dL_arePatterns_525 (by decide) ?_
        refine q_ge (tgt := 561) hx hb (by decide) (by decide) dL_arePatterns_526 (by decide) (fun g3 => ?_) (fun g3 => (by omega))
        refine lv_iload_n hx hb dL_arePatterns_561 rfl (lv_at hl 3 rfl) ?_
        refine q_eq0 (tgt := 575) hx hb (by decide) dL_arePatterns_562 (by decide) (fun g4 => (by omega)) (fun g4 => ?_)
        refine lv_iload hx hb dL_arePatterns_565 (lv_at hl 7 rfl) ?_
        refine lv_iload_n hx hb dL_arePatterns_567 rfl (lv_at hl 2 rfl) ?_
        refine q_ne (tgt := 575) hx hb (by omega) (q31 (hB _ _)) dL_arePatterns_568 (by decide) (fun g5 => (by omega)) (fun g5 => ?_)
        refine lv_iconst (v := nI 1) hx hb dL_arePatterns_571 (by decide) ?_
        refine lv_goto (tgt := 576) hx hb dL_arePatterns_572 (by decide) ?_
        refine W.widen (k := 410) (n := 3300) (by omega) (by omega) ?_
        exact W.zret (v := nI 1) hx hb hr rfl (fun t ht _ => ⟨rfl, by rw [ht]; exact ho⟩) hS.2.2 dL_arePatterns_576
      · rintro k H10 locs ls hi_k ⟨ho, hS, hat_m, hat_src, hat_wds, hat_alv, hl⟩ ih_k
        refine lv_iload hx hb dL_arePatterns_523 (lv_at hl 9 rfl) ?_
        refine lv_iconst (v := nI 4) hx hb dL_arePatterns_525 (by decide) ?_
        refine q_ge (tgt := 561) hx hb (by omega) (by decide) dL_arePatterns_526 (by decide) (fun g6 => (by omega)) (fun g6 => ?_)
        refine lv_iload_n hx hb dL_arePatterns_529 rfl (lv_at hl 3 rfl) ?_
        refine q_eq0 (tgt := 553) hx hb (by decide) dL_arePatterns_530 (by decide) (fun g7 => (by omega)) (fun g7 => ?_)
        refine lv_aload_n hx hb dL_arePatterns_533 rfl (lv_at hl 0 rfl) ?_
        refine lv_iconst (v := nI 2) hx hb dL_arePatterns_534 (by decide) ?_
        refine lv_iload hx hb dL_arePatterns_535 (lv_at hl 9 rfl) ?_
        refine lv_iconst (v := nI 0) hx hb dL_arePatterns_537 (by decide) ?_
        refine q_v (vx_runSW (As := [.ref (ad 0 0), .int (nI 2), .int (nI k), .int (nI 0)]) (rest := []) ⟨hx, hb, hml, hown, hts⟩ (b_patterns l G es A σ ad hF k hi_k (nI 0)) (vx_cwSW 4 hts gL_arePatterns_L_ask rfl rfl rfl (by decide +kernel) ⟨Nat.le_of_ble_eq_true rfl, Nat.le_of_ble_eq_true rfl⟩) ⟨qR.blind, qR.pre hC (hW0.same ho.2)⟩ rfl rfl hl.1 rfl (lv_room (Nat.le_of_ble_eq_true rfl)) dL_arePatterns_538 ⟨by show (206 + mn) ≤ 410; omega, by show (2022 + 6 * mn) ≤ 3300; omega⟩) hS (fun _ h => h.elim) (fun locs hS => ?_)
        refine lv_aload hx hb dL_arePatterns_541 (lv_at hl 8 rfl) ?_
        refine lv_iload hx hb dL_arePatterns_543 (lv_at hl 9 rfl) ?_
        refine r_iald hx hb hC.1 hat_alv 1 rfl (i := k) (by omega) (by decide) (v := nI (qsum (fun p9 => qB (σ 96 p9 = k ∧ σ 97 p9 = 0)) mn)) (e_ev k hi_k) dL_arePatterns_545 ?_
        refine q_neP (P := True) (tgt := 553) hx hb (iff_of_true (by rw [jP_all hmn1 (fun p9 h1 h2 => (hsrc p9 h1 h2).2)]) trivial) dL_arePatterns_546 (by decide) (fun c1 => absurd trivial c1) (fun c1 => ?_)
        refine lv_iconst (v := nI 1) hx hb dL_arePatterns_549 (by decide) ?_
        refine lv_goto (tgt := 554) hx hb dL_arePatterns_550 (by decide) ?_
        refine lv_istore_n (lv' := [(3, .int (nI 1)), (0, .ref (ad 0 0)), (1, .ref (zm)), (2, .int (nI (σ 0 0))), (4, .ref (H3.size)), (5, .ref (H4.size)), (6, .int (nI mn)), (7, .int (nI al)), (8, .ref (H6.size)), (9, .int (nI k))]) hx hb dL_arePatterns_554 rfl hl (by decide) rfl (fun ls hl => ?_)
        refine lv_iinc (v := nI (k + 1)) (lv' := [(9, .int (nI (k + 1))), (3, .int (nI 1)), (0, .ref (ad 0 0)), (1, .ref (zm)), (2, .int (nI (σ 0 0))), (4, .ref (H3.size)), (5, .ref (H4.size)), (6, .int (nI mn)), (7, .int (nI al)), (8, .ref (H6.size))]) hx hb dL_arePatterns_555 hl (k := 9) rfl (nI_1 k) (by decide) rfl (fun ls hl => ?_)
        refine lv_goto (tgt := 523) hx hb dL_arePatterns_558 (by decide) ?_
        exact ih_k _ locs ls ⟨ho, hS, hat_m, hat_src, hat_wds, hat_alv, lv_sub hl [2, 3, 4, 1, 5, 6, 7, 8, 9, 0] rfl⟩
    · rintro i H11 locs ls hi_i ⟨ho, hS, al, e_al, hw, e_hw, ev, e_ev, hat_m, hat_src, hat_wds, hat_alv, hl⟩ ih_i
      refine lv_iload hx hb dL_arePatterns_208 (lv_at hl 9 rfl) ?_
      refine lv_iload hx hb dL_arePatterns_210 (lv_at hl 6 rfl) ?_
      refine q_ge (tgt := 520) hx hb (by omega) (by omega) dL_arePatterns_212 (by decide) (fun g8 => (by omega)) (fun g8 => ?_)
      refine lv_iload_n hx hb dL_arePatterns_215 rfl (lv_at hl 3 rfl) ?_
      refine q_eq0 (tgt := 520) hx hb (by decide) dL_arePatterns_216 (by decide) (fun g9 => (by omega)) (fun g9 => ?_)
      have hp9 : i < σ 0 1 := by omega
      refine lv_aload_n hx hb dL_arePatterns_219 rfl (lv_at hl 0 rfl) ?_
      refine lv_iconst (v := nI 4) hx hb dL_arePatterns_220 (by decide) ?_
      refine lv_iload hx hb dL_arePatterns_221 (lv_at hl 9 rfl) ?_
      refine lv_iconst (v := nI 0) hx hb dL_arePatterns_223 (by decide) ?_
      by_cases hm9 : σ 97 i = 0
      · skip
        obtain ⟨hL1, hs4, hV⟩ := jPat hv hj hp9 hm9
        have hL2 := jN_le σ i
        have hal : al ≤ 1000000 := by have := qsum_bound (f := jQ σ) (b := 200) i (fun p9 _ => by unfold jQ; split; exact Nat.le_trans (jN_le σ p9) hn.1; exact Nat.zero_le _); omega
        refine q_v (vx_runSW (As := [.ref (ad 0 0), .int (nI 4), .int (nI i), .int (nI 0)]) (rest := []) ⟨hx, hb, hml, hown, hts⟩ (b_linesOf l G es A σ ad hF i hp9 hm9 (nI 0)) (vx_cwSW 4 hts gL_arePatterns_L_ask rfl rfl rfl (by decide +kernel) ⟨Nat.le_of_ble_eq_true rfl, Nat.le_of_ble_eq_true rfl⟩) ⟨qR.blind, qR.pre hC (hW0.same ho.2)⟩ rfl rfl hl.1 rfl (lv_room (Nat.le_of_ble_eq_true rfl)) dL_arePatterns_224 ⟨by show (206 + i) ≤ 410; omega, by show (2022 + 6 * i) ≤ 3300; omega⟩) hS (fun _ h => h.elim) (fun locs hS => ?_)
        refine q_ti (y := nI (jN σ i)) rfl ?_
        refine lv_istore (lv' := [(10, .int (nI (jN σ i))), (0, .ref (ad 0 0)), (1, .ref (zm)), (2, .int (nI (σ 0 0))), (3, .int (nI 1)), (4, .ref (H3.size)), (5, .ref (H4.size)), (6, .int (nI mn)), (7, .int (nI al)), (8, .ref (H6.size)), (9, .int (nI i))]) hx hb dL_arePatterns_227 hl (by decide) rfl (fun ls hl => ?_)
        refine lv_iconst (v := nI 0) hx hb dL_arePatterns_229 (by decide) ?_
        refine lv_istore (lv' := [(11, .int (nI 0)), (10, .int (nI (jN σ i))), (0, .ref (ad 0 0)), (1, .ref (zm)), (2, .int (nI (σ 0 0))), (3, .int (nI 1)), (4, .ref (H3.size)), (5, .ref (H4.size)), (6, .int (nI mn)), (7, .int (nI al)), (8, .ref (H6.size)), (9, .int (nI i))]) hx hb dL_arePatterns_230 hl (by decide) rfl (fun ls hl => ?_)
        refine q_up 3 (fun k H locs ls => qHo s.heap H ∧ va_S A s.heap H locs ∧ ∃ (hy : Nat → Int32), ((∀ p9, p9 < i → ∀ k9, k9 < 3 → hy (3 * p9 + k9) = jWd σ p9 k9) ∧ ∀ k9, k9 < k → hy (3 * i + k9) = (fun _ => -10 - nI i) k9) ∧ va_at G.1 vwCl (zm, .inl (G.2 1, 1400, .inl mf)) H ∧ va_at G.1 vwCl (H3.size, .inl (G.2 1, 200, .inl gs)) H ∧ va_at G.1 vwCl (H4.size, .inl (G.2 1, 600, .inl hy)) H ∧ va_at G.1 vwCl (H6.size, .inl (G.2 1, 4, .inl ev)) H ∧ lv_has ls 14 [(10, .int (nI (jN σ i))), (0, .ref (ad 0 0)), (1, .ref (zm)), (2, .int (nI (σ 0 0))), (3, .int (nI 1)), (4, .ref (H3.size)), (5, .ref (H4.size)), (6, .int (nI mn)), (7, .int (nI al)), (8, .ref (H6.size)), (9, .int (nI i)), (11, .int (nI k))]) ?_ ?_ (i0 := 0) (Nat.zero_le _) ⟨ho, hS, hw, ⟨e_hw, fun _ z => absurd z (Nat.not_lt_zero _)⟩, hat_m, hat_src, hat_wds, hat_alv, lv_sub hl [1, 2, 3, 4, 5, 6, 7, 8, 9, 10, 11, 0] rfl⟩
        · rintro H12 locs ls ⟨ho, hS, hy, e_hy, hat_m, hat_src, hat_wds, hat_alv, hl⟩
          refine lv_iload hx hb dL_arePatterns_232 (lv_at hl 11 rfl) ?_
          refine lv_iconst (v := nI 3) hx hb dL_arePatterns_234 (by decide) ?_
          refine q_ge (tgt := 259) hx hb (by decide) (by decide) dL_arePatterns_235 (by decide) (fun g10 => ?_) (fun g10 => (by omega))
          refine lv_iload hx hb dL_arePatterns_259 (lv_at hl 0 rfl) ?_
          refine lv_sipush (v := -2005) hx hb dL_arePatterns_261 (by decide) ?_
          refine q_eqP (P := False) (tgt := 514) hx hb (iff_of_false (l_neg (by omega) _ (by decide)) (fun z => z)) dL_arePatterns_264 (by decide) (fun c6 => c6.elim) (fun c6 => ?_)
          refine lv_iload hx hb dL_arePatterns_267 (lv_at hl 8 rfl) ?_
          refine lv_iload hx hb dL_arePatterns_269 (lv_at hl 0 rfl) ?_
          refine lv_iadd hx hb dL_arePatterns_271 ?_
          refine q_ti (nI_add al (jN σ i)) ?_
          refine lv_istore (lv' := [(7, .int (nI (al + (jN σ i)))), (10, .int (nI (jN σ i))), (0, .ref (ad 0 0)), (1, .ref (zm)), (2, .int (nI (σ 0 0))), (3, .int (nI 1)), (4, .ref (H3.size)), (5, .ref (H4.size)), (6, .int (nI mn)), (8, .ref (H6.size)), (9, .int (nI i)), (11, .int (nI 3))]) hx hb dL_arePatterns_272 hl (by decide) rfl (fun ls hl => ?_)
          refine lv_aload hx hb dL_arePatterns_274 (lv_at hl 9 rfl) ?_
          refine lv_aload hx hb dL_arePatterns_276 (lv_at hl 6 rfl) ?_
          refine lv_iload hx hb dL_arePatterns_278 (lv_at hl 10 rfl) ?_
          refine r_iald hx hb hC.1 hat_src 1 rfl (i := i) (by omega) (by decide) (v := nI (σ 96 i)) (hsrc i hp9 hm9).1 dL_arePatterns_280 ?_
          refine lv_dup2_11 hx hb dL_arePatterns_281 rfl rfl ?_
          refine r_iald hx hb hC.1 hat_alv 1 rfl (i := (σ 96 i)) (by omega) (by decide) (v := nI (qsum (fun p9 => qB (σ 96 p9 = (σ 96 i) ∧ σ 97 p9 = 0)) i)) (e_ev _ hs4) dL_arePatterns_282 ?_
          refine lv_iconst (v := nI 1) hx hb dL_arePatterns_283 (by decide) ?_
          refine lv_iadd hx hb dL_arePatterns_284 ?_
          refine q_ti (nI_add (qsum (fun p9 => qB (σ 96 p9 = (σ 96 i) ∧ σ 97 p9 = 0)) i) 1) ?_
          have hpn := qsum_bound (f := fun p9 => qB (σ 96 p9 = σ 96 i ∧ σ 97 p9 = 0)) (b := 1) i (fun _ _ => qB_le)
          refine q_iast hx hb hC.1 hat_alv (hA _ hx_alv) hS 1 rfl (vp_in_nI (n := (σ 96 i)) (by omega) (by omega)) dL_arePatterns_285 (fun H13 locs hat9 hsz hoq hS => ?_)
          have hat_m := hat_m.kept (hoq _ (by omega))
          have hat_src := hat_src.kept (hoq _ (by omega))
          have hat_wds := hat_wds.kept (hoq _ (by omega))
          have hat_alv : va_at G.1 vwCl (H6.size, .inl (G.2 1, 4, .inl (upd ev (σ 96 i) (nI (qsum (fun p9 => qB (σ 96 p9 = σ 96 i ∧ σ 97 p9 = 0)) i + 1))))) H13 := by rw [show (upd ev (σ 96 i) (nI (qsum (fun p9 => qB (σ 96 p9 = σ 96 i ∧ σ 97 p9 = 0)) i + 1))) = _ from (l_idx (by omega)).symm]; exact hat9
          have ho := ho.put hsz hoq hx_alv
          refine lv_iload hx hb dL_arePatterns_286 (lv_at hl 1 rfl) ?_
          refine q_le0 (tgt := 295) hx hb (by omega) dL_arePatterns_288 (by decide) (fun g11 => (by omega)) (fun g11 => ?_)
          refine lv_iconst (v := nI 1) hx hb dL_arePatterns_291 (by decide) ?_
          refine lv_goto (tgt := 296) hx hb dL_arePatterns_292 (by decide) ?_
          refine lv_istore_n (lv' := [(3, .int (nI 1)), (7, .int (nI (al + (jN σ i)))), (10, .int (nI (jN σ i))), (0, .ref (ad 0 0)), (1, .ref (zm)), (2, .int (nI (σ 0 0))), (4, .ref (H3.size)), (5, .ref (H4.size)), (6, .int (nI mn)), (8, .ref (H6.size)), (9, .int (nI i)), (11, .int (nI 3))]) hx hb dL_arePatterns_296 rfl hl (by decide) rfl (fun ls hl => ?_)
          refine lv_iconst (v := nI 0) hx hb dL_arePatterns_297 (by decide) ?_
          refine lv_istore (lv' := [(11, .int (nI 0)), (3, .int (nI 1)), (7, .int (nI (al + (jN σ i)))), (10, .int (nI (jN σ i))), (0, .ref (ad 0 0)), (1, .ref (zm)), (2, .int (nI (σ 0 0))), (4, .ref (H3.size)), (5, .ref (H4.size)), (6, .int (nI mn)), (8, .ref (H6.size)), (9, .int (nI i))]) hx hb dL_arePatterns_298 hl (by decide) rfl (fun ls hl => ?_)
          refine q_up 3 (fun k H locs ls => qHo s.heap H ∧ va_S A s.heap H locs ∧ va_at G.1 vwCl (zm, .inl (G.2 1, 1400, .inl mf)) H ∧ va_at G.1 vwCl (H3.size, .inl (G.2 1, 200, .inl gs)) H ∧ va_at G.1 vwCl (H4.size, .inl (G.2 1, 600, .inl hy)) H ∧ va_at G.1 vwCl (H6.size, .inl (G.2 1, 4, .inl (upd ev (σ 96 i) (nI (qsum (fun p9 => qB (σ 96 p9 = σ 96 i ∧ σ 97 p9 = 0)) i + 1))))) H ∧ lv_has ls 14 [(3, .int (nI 1)), (7, .int (nI (al + (jN σ i)))), (10, .int (nI (jN σ i))), (0, .ref (ad 0 0)), (1, .ref (zm)), (2, .int (nI (σ 0 0))), (4, .ref (H3.size)), (5, .ref (H4.size)), (6, .int (nI mn)), (8, .ref (H6.size)), (9, .int (nI i)), (11, .int (nI k))]) ?_ ?_ (i0 := 0) (Nat.zero_le _) ⟨ho, hS, hat_m, hat_src, hat_wds, hat_alv, lv_sub hl [1, 2, 3, 4, 5, 6, 7, 8, 9, 10, 11, 0] rfl⟩
          · rintro H14 locs ls ⟨ho, hS, hat_m, hat_src, hat_wds, hat_alv, hl⟩
            refine lv_iload hx hb dL_arePatterns_300 (lv_at hl 11 rfl) ?_
            refine lv_iconst (v := nI 3) hx hb dL_arePatterns_302 (by decide) ?_
            refine q_ge (tgt := 384) hx hb (by decide) (by decide) dL_arePatterns_303 (by decide) (fun g12 => ?_) (fun g12 => (by omega))
            refine lv_iconst (v := nI 0) hx hb dL_arePatterns_384 (by decide) ?_
            refine lv_istore (lv' := [(11, .int (nI 0)), (3, .int (nI 1)), (7, .int (nI (al + (jN σ i)))), (10, .int (nI (jN σ i))), (0, .ref (ad 0 0)), (1, .ref (zm)), (2, .int (nI (σ 0 0))), (4, .ref (H3.size)), (5, .ref (H4.size)), (6, .int (nI mn)), (8, .ref (H6.size)), (9, .int (nI i))]) hx hb dL_arePatterns_385 hl (by decide) rfl (fun ls hl => ?_)
            refine q_up 3 (fun k H locs ls => qHo s.heap H ∧ va_S A s.heap H locs ∧ ∃ (hz : Nat → Int32), ((∀ p9, p9 < i → ∀ k9, k9 < 3 → hz (3 * p9 + k9) = jWd σ p9 k9) ∧ ∀ k9, k9 < k → hz (3 * i + k9) = jWd σ i k9) ∧ va_at G.1 vwCl (zm, .inl (G.2 1, 1400, .inl mf)) H ∧ va_at G.1 vwCl (H3.size, .inl (G.2 1, 200, .inl gs)) H ∧ va_at G.1 vwCl (H4.size, .inl (G.2 1, 600, .inl hz)) H ∧ va_at G.1 vwCl (H6.size, .inl (G.2 1, 4, .inl (upd ev (σ 96 i) (nI (qsum (fun p9 => qB (σ 96 p9 = σ 96 i ∧ σ 97 p9 = 0)) i + 1))))) H ∧ lv_has ls 14 [(3, .int (nI 1)), (7, .int (nI (al + (jN σ i)))), (10, .int (nI (jN σ i))), (0, .ref (ad 0 0)), (1, .ref (zm)), (2, .int (nI (σ 0 0))), (4, .ref (H3.size)), (5, .ref (H4.size)), (6, .int (nI mn)), (8, .ref (H6.size)), (9, .int (nI i)), (11, .int (nI k))]) ?_ ?_ (i0 := 0) (Nat.zero_le _) ⟨ho, hS, hy, ⟨e_hy.1, fun _ z => absurd z (Nat.not_lt_zero _)⟩, hat_m, hat_src, hat_wds, hat_alv, lv_sub hl [1, 2, 3, 4, 5, 6, 7, 8, 9, 10, 11, 0] rfl⟩
            · rintro H15 locs ls ⟨ho, hS, hz, e_hz, hat_m, hat_src, hat_wds, hat_alv, hl⟩
              refine lv_iload hx hb dL_arePatterns_387 (lv_at hl 11 rfl) ?_
              refine lv_iconst (v := nI 3) hx hb dL_arePatterns_389 (by decide) ?_
              refine q_ge (tgt := 418) hx hb (by decide) (by decide) dL_arePatterns_390 (by decide) (fun g13 => ?_) (fun g13 => (by omega))
              have hz9 := l_wdn (v := fun k9 => jWd σ i k9) e_hz (fun _ _ => rfl)
              refine lv_iconst (v := nI 0) hx hb dL_arePatterns_418 (by decide) ?_
              refine lv_istore (lv' := [(11, .int (nI 0)), (3, .int (nI 1)), (7, .int (nI (al + (jN σ i)))), (10, .int (nI (jN σ i))), (0, .ref (ad 0 0)), (1, .ref (zm)), (2, .int (nI (σ 0 0))), (4, .ref (H3.size)), (5, .ref (H4.size)), (6, .int (nI mn)), (8, .ref (H6.size)), (9, .int (nI i))]) hx hb dL_arePatterns_419 hl (by decide) rfl (fun ls hl => ?_)
              refine q_up i (fun q9 H locs ls => qHo s.heap H ∧ va_S A s.heap H locs ∧ va_at G.1 vwCl (zm, .inl (G.2 1, 1400, .inl mf)) H ∧ va_at G.1 vwCl (H3.size, .inl (G.2 1, 200, .inl gs)) H ∧ va_at G.1 vwCl (H4.size, .inl (G.2 1, 600, .inl hz)) H ∧ va_at G.1 vwCl (H6.size, .inl (G.2 1, 4, .inl (upd ev (σ 96 i) (nI (qsum (fun p9 => qB (σ 96 p9 = σ 96 i ∧ σ 97 p9 = 0)) i + 1))))) H ∧ lv_has ls 14 [(3, .int (nI 1)), (7, .int (nI (al + (jN σ i)))), (10, .int (nI (jN σ i))), (0, .ref (ad 0 0)), (1, .ref (zm)), (2, .int (nI (σ 0 0))), (4, .ref (H3.size)), (5, .ref (H4.size)), (6, .int (nI mn)), (8, .ref (H6.size)), (9, .int (nI i)), (11, .int (nI q9))]) ?_ ?_ (i0 := 0) (Nat.zero_le _) ⟨ho, hS, hat_m, hat_src, hat_wds, hat_alv, lv_sub hl [1, 2, 3, 4, 5, 6, 7, 8, 9, 10, 11, 0] rfl⟩
              · rintro H16 locs ls ⟨ho, hS, hat_m, hat_src, hat_wds, hat_alv, hl⟩
                refine lv_iload hx hb dL_arePatterns_421 (lv_at hl 11 rfl) ?_
                refine lv_iload hx hb dL_arePatterns_423 (lv_at hl 10 rfl) ?_
                refine q_ge (tgt := 514) hx hb (by omega) (by omega) dL_arePatterns_425 (by decide) (fun g14 => ?_) (fun g14 => (by omega))
                refine lv_iinc (v := nI (i + 1)) (lv' := [(9, .int (nI (i + 1))), (3, .int (nI 1)), (7, .int (nI (al + (jN σ i)))), (10, .int (nI (jN σ i))), (0, .ref (ad 0 0)), (1, .ref (zm)), (2, .int (nI (σ 0 0))), (4, .ref (H3.size)), (5, .ref (H4.size)), (6, .int (nI mn)), (8, .ref (H6.size)), (11, .int (nI i))]) hx hb dL_arePatterns_514 hl (k := 10) rfl (nI_1 i) (by decide) rfl (fun ls hl => ?_)
                refine lv_goto (tgt := 208) hx hb dL_arePatterns_517 (by decide) ?_
                refine W.widen (k := (206 + (i + 1))) (n := (2022 + 6 * (i + 1))) (by show _ ≤ (206 + (i + 1)); omega) (by show _ ≤ (2022 + 6 * (i + 1)); omega) ?_
                exact ih_i _ locs ls ⟨ho, hS, (al + jN σ i), (by rw [e_al, qsum, show jQ σ i = jN σ i from if_pos hm9]), hz, hz9, (upd ev (σ 96 i) (nI (qsum (fun p9 => qB (σ 96 p9 = σ 96 i ∧ σ 97 p9 = 0)) i + 1))), (l_ev1 e_ev hm9), hat_m, hat_src, hat_wds, hat_alv, lv_sub hl [4, 5, 6, 1, 7, 8, 9, 2, 10, 0] rfl⟩
              · rintro q9 H17 locs ls hi_q9 ⟨ho, hS, hat_m, hat_src, hat_wds, hat_alv, hl⟩ ih_q9
                refine lv_iload hx hb dL_arePatterns_421 (lv_at hl 11 rfl) ?_
                refine lv_iload hx hb dL_arePatterns_423 (lv_at hl 10 rfl) ?_
                refine q_ge (tgt := 514) hx hb (by omega) (by omega) dL_arePatterns_425 (by decide) (fun g15 => (by omega)) (fun g15 => ?_)
                refine lv_iconst (v := nI 0) hx hb dL_arePatterns_428 (by decide) ?_
                refine lv_istore (lv' := [(12, .int (nI 0)), (3, .int (nI 1)), (7, .int (nI (al + (jN σ i)))), (10, .int (nI (jN σ i))), (0, .ref (ad 0 0)), (1, .ref (zm)), (2, .int (nI (σ 0 0))), (4, .ref (H3.size)), (5, .ref (H4.size)), (6, .int (nI mn)), (8, .ref (H6.size)), (9, .int (nI i)), (11, .int (nI q9))]) hx hb dL_arePatterns_429 hl (by decide) rfl (fun ls hl => ?_)
                refine lv_iconst (v := nI 0) hx hb dL_arePatterns_431 (by decide) ?_
                refine lv_istore (lv' := [(13, .int (nI 0)), (12, .int (nI 0)), (3, .int (nI 1)), (7, .int (nI (al + (jN σ i)))), (10, .int (nI (jN σ i))), (0, .ref (ad 0 0)), (1, .ref (zm)), (2, .int (nI (σ 0 0))), (4, .ref (H3.size)), (5, .ref (H4.size)), (6, .int (nI mn)), (8, .ref (H6.size)), (9, .int (nI i)), (11, .int (nI q9))]) hx hb dL_arePatterns_432 hl (by decide) rfl (fun ls hl => ?_)
                refine q_up 3 (fun k H locs ls => qHo s.heap H ∧ va_S A s.heap H locs ∧ ∃ (sm : Nat), (sm = qsum (fun k9 => qB (jWd σ q9 k9 = jWd σ i k9)) k) ∧ va_at G.1 vwCl (zm, .inl (G.2 1, 1400, .inl mf)) H ∧ va_at G.1 vwCl (H3.size, .inl (G.2 1, 200, .inl gs)) H ∧ va_at G.1 vwCl (H4.size, .inl (G.2 1, 600, .inl hz)) H ∧ va_at G.1 vwCl (H6.size, .inl (G.2 1, 4, .inl (upd ev (σ 96 i) (nI (qsum (fun p9 => qB (σ 96 p9 = σ 96 i ∧ σ 97 p9 = 0)) i + 1))))) H ∧ lv_has ls 14 [(3, .int (nI 1)), (7, .int (nI (al + (jN σ i)))), (10, .int (nI (jN σ i))), (0, .ref (ad 0 0)), (1, .ref (zm)), (2, .int (nI (σ 0 0))), (4, .ref (H3.size)), (5, .ref (H4.size)), (6, .int (nI mn)), (8, .ref (H6.size)), (9, .int (nI i)), (11, .int (nI q9)), (12, .int (nI sm)), (13, .int (nI k))]) ?_ ?_ (i0 := 0) (Nat.zero_le _) ⟨ho, hS, 0, rfl, hat_m, hat_src, hat_wds, hat_alv, lv_sub hl [2, 3, 4, 5, 6, 7, 8, 9, 10, 11, 12, 13, 1, 0] rfl⟩
                · rintro H18 locs ls ⟨ho, hS, sm, e_sm, hat_m, hat_src, hat_wds, hat_alv, hl⟩
                  have hsm := qsum_bound (f := fun k9 => qB (jWd σ q9 k9 = jWd σ i k9)) (b := 1) 3 (fun _ _ => qB_le)
                  refine lv_iload hx hb dL_arePatterns_434 (lv_at hl 13 rfl) ?_
                  refine lv_iconst (v := nI 3) hx hb dL_arePatterns_436 (by decide) ?_
                  refine q_ge (tgt := 479) hx hb (by decide) (by decide) dL_arePatterns_437 (by decide) (fun g16 => ?_) (fun g16 => (by omega))
                  refine lv_iload_n hx hb dL_arePatterns_479 rfl (lv_at hl 0 rfl) ?_
                  refine q_eq0 (tgt := 506) hx hb (by decide) dL_arePatterns_480 (by decide) (fun g17 => (by omega)) (fun g17 => ?_)
                  refine lv_iload hx hb dL_arePatterns_483 (lv_at hl 12 rfl) ?_
                  refine lv_iconst (v := nI 2) hx hb dL_arePatterns_485 (by decide) ?_
                  refine q_ne (tgt := 502) hx hb (by omega) (by decide) dL_arePatterns_486 (by decide) (fun c2 => ?_) (fun c2 => ?_)
                  · skip
                    refine lv_iconst (v := nI 1) hx hb dL_arePatterns_502 (by decide) ?_
                    refine lv_goto (tgt := 507) hx hb dL_arePatterns_503 (by decide) ?_
                    refine lv_istore_n (lv' := [(3, .int (nI 1)), (7, .int (nI (al + (jN σ i)))), (10, .int (nI (jN σ i))), (0, .ref (ad 0 0)), (1, .ref (zm)), (2, .int (nI (σ 0 0))), (4, .ref (H3.size)), (5, .ref (H4.size)), (6, .int (nI mn)), (8, .ref (H6.size)), (9, .int (nI i)), (11, .int (nI q9)), (12, .int (nI sm)), (13, .int (nI 3))]) hx hb dL_arePatterns_507 rfl hl (by decide) rfl (fun ls hl => ?_)
                    refine lv_iinc (v := nI (q9 + 1)) (lv' := [(11, .int (nI (q9 + 1))), (3, .int (nI 1)), (7, .int (nI (al + (jN σ i)))), (10, .int (nI (jN σ i))), (0, .ref (ad 0 0)), (1, .ref (zm)), (2, .int (nI (σ 0 0))), (4, .ref (H3.size)), (5, .ref (H4.size)), (6, .int (nI mn)), (8, .ref (H6.size)), (9, .int (nI i)), (12, .int (nI sm)), (13, .int (nI 3))]) hx hb dL_arePatterns_508 hl (k := 11) rfl (nI_1 q9) (by decide) rfl (fun ls hl => ?_)
                    refine lv_goto (tgt := 421) hx hb dL_arePatterns_511 (by decide) ?_
                    exact ih_q9 _ locs ls ⟨ho, hS, hat_m, hat_src, hat_wds, hat_alv, lv_sub hl [1, 2, 3, 4, 5, 6, 7, 8, 9, 10, 11, 0] rfl⟩
                  · skip
                    obtain ⟨hq97, hq96⟩ := l_words hv hj hi_q9 hp9 hm9 (e_sm.symm.trans c2)
                    refine lv_aload hx hb dL_arePatterns_489 (lv_at hl 6 rfl) ?_
                    refine lv_iload hx hb dL_arePatterns_491 (lv_at hl 10 rfl) ?_
                    refine r_iald hx hb hC.1 hat_src 1 rfl (i := i) (by omega) (by decide) (v := nI (σ 96 i)) (hsrc i hp9 hm9).1 dL_arePatterns_493 ?_
                    refine lv_aload hx hb dL_arePatterns_494 (lv_at hl 6 rfl) ?_
                    refine lv_iload hx hb dL_arePatterns_496 (lv_at hl 11 rfl) ?_
                    refine r_iald hx hb hC.1 hat_src 1 rfl (i := q9) (by omega) (by decide) (v := nI (σ 96 q9)) (hsrc q9 (by omega) hq97).1 dL_arePatterns_498 ?_
                    refine q_eqP (P := False) (tgt := 506) hx hb (iff_of_false (fun z => hq96 ((nI_eq (q31 (hB _ _)) (q31 (hB _ _))).mp z).symm) (fun z => z)) dL_arePatterns_499 (by decide) (fun c1 => c1.elim) (fun c1 => ?_)
                    refine lv_iconst (v := nI 1) hx hb dL_arePatterns_502 (by decide) ?_
                    refine lv_goto (tgt := 507) hx hb dL_arePatterns_503 (by decide) ?_
                    refine lv_istore_n (lv' := [(3, .int (nI 1)), (7, .int (nI (al + (jN σ i)))), (10, .int (nI (jN σ i))), (0, .ref (ad 0 0)), (1, .ref (zm)), (2, .int (nI (σ 0 0))), (4, .ref (H3.size)), (5, .ref (H4.size)), (6, .int (nI mn)), (8, .ref (H6.size)), (9, .int (nI i)), (11, .int (nI q9)), (12, .int (nI sm)), (13, .int (nI 3))]) hx hb dL_arePatterns_507 rfl hl (by decide) rfl (fun ls hl => ?_)
                    refine lv_iinc (v := nI (q9 + 1)) (lv' := [(11, .int (nI (q9 + 1))), (3, .int (nI 1)), (7, .int (nI (al + (jN σ i)))), (10, .int (nI (jN σ i))), (0, .ref (ad 0 0)), (1, .ref (zm)), (2, .int (nI (σ 0 0))), (4, .ref (H3.size)), (5, .ref (H4.size)), (6, .int (nI mn)), (8, .ref (H6.size)), (9, .int (nI i)), (12, .int (nI sm)), (13, .int (nI 3))]) hx hb dL_arePatterns_508 hl (k := 11) rfl (nI_1 q9) (by decide) rfl (fun ls hl => ?_)
                    refine lv_goto (tgt := 421) hx hb dL_arePatterns_511 (by decide) ?_
                    exact ih_q9 _ locs ls ⟨ho, hS, hat_m, hat_src, hat_wds, hat_alv, lv_sub hl [1, 2, 3, 4, 5, 6, 7, 8, 9, 10, 11, 0] rfl⟩
                · rintro k H19 locs ls hi_k ⟨ho, hS, sm, e_sm, hat_m, hat_src, hat_wds, hat_alv, hl⟩ ih_k
                  refine lv_iload hx hb dL_arePatterns_434 (lv_at hl 13 rfl) ?_
                  refine lv_iconst (v := nI 3) hx hb dL_arePatterns_436 (by decide) ?_
                  refine q_ge (tgt := 479) hx hb (by omega) (by decide) dL_arePatterns_437 (by decide) (fun g18 => (by omega)) (fun g18 => ?_)
                  refine lv_iload hx hb dL_arePatterns_440 (lv_at hl 12 rfl) ?_
                  refine lv_aload hx hb dL_arePatterns_442 (lv_at hl 7 rfl) ?_
                  refine lv_iconst (v := nI 3) hx hb dL_arePatterns_444 (by decide) ?_
                  refine lv_iload hx hb dL_arePatterns_445 (lv_at hl 11 rfl) ?_
                  refine lv_imul hx hb dL_arePatterns_447 ?_
                  refine q_ti (pk_mul 3 q9) ?_
                  refine lv_iload hx hb dL_arePatterns_448 (lv_at hl 13 rfl) ?_
                  refine lv_iadd hx hb dL_arePatterns_450 ?_
                  refine q_ti (nI_add (3 * q9) k) ?_
                  refine r_iald hx hb hC.1 hat_wds 1 rfl (i := ((3 * q9) + k)) (by omega) (by decide) (v := jWd σ q9 k) (hz9 q9 (by omega) k hi_k) dL_arePatterns_451 ?_
                  refine lv_aload hx hb dL_arePatterns_452 (lv_at hl 7 rfl) ?_
                  refine lv_iconst (v := nI 3) hx hb dL_arePatterns_454 (by decide) ?_
                  refine lv_iload hx hb dL_arePatterns_455 (lv_at hl 10 rfl) ?_
                  refine lv_imul hx hb dL_arePatterns_457 ?_
                  refine q_ti (pk_mul 3 i) ?_
                  refine lv_iload hx hb dL_arePatterns_458 (lv_at hl 13 rfl) ?_
                  refine lv_iadd hx hb dL_arePatterns_460 ?_
                  refine q_ti (nI_add (3 * i) k) ?_
                  refine r_iald hx hb hC.1 hat_wds 1 rfl (i := ((3 * i) + k)) (by omega) (by decide) (v := jWd σ i k) (hz9 i (by omega) k hi_k) dL_arePatterns_461 ?_
                  refine q_neP (P := jWd σ q9 k = jWd σ i k) (tgt := 469) hx hb Iff.rfl dL_arePatterns_462 (by decide) (fun c5 => ?_) (fun c5 => ?_)
                  · skip
                    refine lv_iconst (v := nI 0) hx hb dL_arePatterns_469 (by decide) ?_
                    refine lv_iadd hx hb dL_arePatterns_470 ?_
                    refine q_ti (nI_add sm 0) ?_
                    refine lv_istore (lv' := [(12, .int (nI (sm + 0))), (3, .int (nI 1)), (7, .int (nI (al + (jN σ i)))), (10, .int (nI (jN σ i))), (0, .ref (ad 0 0)), (1, .ref (zm)), (2, .int (nI (σ 0 0))), (4, .ref (H3.size)), (5, .ref (H4.size)), (6, .int (nI mn)), (8, .ref (H6.size)), (9, .int (nI i)), (11, .int (nI q9)), (13, .int (nI k))]) hx hb dL_arePatterns_471 hl (by decide) rfl (fun ls hl => ?_)
                    refine lv_iinc (v := nI (k + 1)) (lv' := [(13, .int (nI (k + 1))), (12, .int (nI (sm + 0))), (3, .int (nI 1)), (7, .int (nI (al + (jN σ i)))), (10, .int (nI (jN σ i))), (0, .ref (ad 0 0)), (1, .ref (zm)), (2, .int (nI (σ 0 0))), (4, .ref (H3.size)), (5, .ref (H4.size)), (6, .int (nI mn)), (8, .ref (H6.size)), (9, .int (nI i)), (11, .int (nI q9))]) hx hb dL_arePatterns_473 hl (k := 13) rfl (nI_1 k) (by decide) rfl (fun ls hl => ?_)
                    refine lv_goto (tgt := 434) hx hb dL_arePatterns_476 (by decide) ?_
                    exact ih_k _ locs ls ⟨ho, hS, (sm + 0), (by rw [e_sm, qsum, qB_f c5]), hat_m, hat_src, hat_wds, hat_alv, lv_sub hl [2, 3, 4, 5, 6, 7, 8, 9, 10, 11, 12, 13, 1, 0] rfl⟩
                  · skip
                    refine lv_iconst (v := nI 1) hx hb dL_arePatterns_465 (by decide) ?_
                    refine lv_goto (tgt := 470) hx hb dL_arePatterns_466 (by decide) ?_
                    refine lv_iadd hx hb dL_arePatterns_470 ?_
                    refine q_ti (nI_add sm 1) ?_
                    refine lv_istore (lv' := [(12, .int (nI (sm + 1))), (3, .int (nI 1)), (7, .int (nI (al + (jN σ i)))), (10, .int (nI (jN σ i))), (0, .ref (ad 0 0)), (1, .ref (zm)), (2, .int (nI (σ 0 0))), (4, .ref (H3.size)), (5, .ref (H4.size)), (6, .int (nI mn)), (8, .ref (H6.size)), (9, .int (nI i)), (11, .int (nI q9)), (13, .int (nI k))]) hx hb dL_arePatterns_471 hl (by decide) rfl (fun ls hl => ?_)
                    refine lv_iinc (v := nI (k + 1)) (lv' := [(13, .int (nI (k + 1))), (12, .int (nI (sm + 1))), (3, .int (nI 1)), (7, .int (nI (al + (jN σ i)))), (10, .int (nI (jN σ i))), (0, .ref (ad 0 0)), (1, .ref (zm)), (2, .int (nI (σ 0 0))), (4, .ref (H3.size)), (5, .ref (H4.size)), (6, .int (nI mn)), (8, .ref (H6.size)), (9, .int (nI i)), (11, .int (nI q9))]) hx hb dL_arePatterns_473 hl (k := 13) rfl (nI_1 k) (by decide) rfl (fun ls hl => ?_)
                    refine lv_goto (tgt := 434) hx hb dL_arePatterns_476 (by decide) ?_
                    exact ih_k _ locs ls ⟨ho, hS, (sm + 1), (by rw [e_sm, qsum, qB_t c5]), hat_m, hat_src, hat_wds, hat_alv, lv_sub hl [2, 3, 4, 5, 6, 7, 8, 9, 10, 11, 12, 13, 1, 0] rfl⟩
            · rintro k H20 locs ls hi_k ⟨ho, hS, hz, e_hz, hat_m, hat_src, hat_wds, hat_alv, hl⟩ ih_k
              refine lv_iload hx hb dL_arePatterns_387 (lv_at hl 11 rfl) ?_
              refine lv_iconst (v := nI 3) hx hb dL_arePatterns_389 (by decide) ?_
              refine q_ge (tgt := 418) hx hb (by omega) (by decide) dL_arePatterns_390 (by decide) (fun g19 => (by omega)) (fun g19 => ?_)
              refine lv_aload hx hb dL_arePatterns_393 (lv_at hl 7 rfl) ?_
              refine lv_iconst (v := nI 3) hx hb dL_arePatterns_395 (by decide) ?_
              refine lv_iload hx hb dL_arePatterns_396 (lv_at hl 10 rfl) ?_
              refine lv_imul hx hb dL_arePatterns_398 ?_
              refine q_ti (pk_mul 3 i) ?_
              refine lv_iload hx hb dL_arePatterns_399 (lv_at hl 11 rfl) ?_
              refine lv_iadd hx hb dL_arePatterns_401 ?_
              refine q_ti (nI_add (3 * i) k) ?_
              refine lv_aload_n hx hb dL_arePatterns_402 rfl (lv_at hl 3 rfl) ?_
              refine lv_iconst (v := nI 3) hx hb dL_arePatterns_403 (by decide) ?_
              refine lv_iload hx hb dL_arePatterns_404 (lv_at hl 10 rfl) ?_
              refine lv_iload hx hb dL_arePatterns_406 (lv_at hl 11 rfl) ?_
              refine q_v (vx_runSW (As := [.ref (ad 0 0), .int (nI 3), .int (nI i), .int (nI k)]) (rest := [.int (nI ((3 * i) + k)), .ref (H4.size)]) ⟨hx, hb, hml, hown, hts⟩ (b_wordAt l G es A σ ad hF i k hp9 hm9 hi_k) (vx_cwSW 4 hts gL_arePatterns_L_ask rfl rfl rfl (by decide +kernel) ⟨Nat.le_of_ble_eq_true rfl, Nat.le_of_ble_eq_true rfl⟩) ⟨qR.blind, qR.pre hC (hW0.same ho.2)⟩ rfl rfl hl.1 rfl (lv_room (Nat.le_of_ble_eq_true rfl)) dL_arePatterns_408 ⟨by show (206 + i) ≤ 410; omega, by show (2022 + 6 * i) ≤ 3300; omega⟩) hS (fun _ h => h.elim) (fun locs hS => ?_)
              refine q_iast hx hb hC.1 hat_wds (hA _ hx_wds) hS 1 rfl (vp_in_nI (n := ((3 * i) + k)) (by omega) (by omega)) dL_arePatterns_411 (fun H21 locs hat9 hsz hoq hS => ?_)
              have hat_m := hat_m.kept (hoq _ (by omega))
              have hat_src := hat_src.kept (hoq _ (by omega))
              have hat_alv := hat_alv.kept (hoq _ (by omega))
              have hat_wds : va_at G.1 vwCl (H4.size, .inl (G.2 1, 600, .inl (upd hz (3 * i + k) (nI (σ (112 + k) i) - 1)))) H21 := by rw [show (upd hz (3 * i + k) (nI (σ (112 + k) i) - 1)) = _ from (l_idx (by omega)).symm]; exact hat9
              have ho := ho.put hsz hoq hx_wds
              refine lv_iinc (v := nI (k + 1)) (lv' := [(11, .int (nI (k + 1))), (3, .int (nI 1)), (7, .int (nI (al + (jN σ i)))), (10, .int (nI (jN σ i))), (0, .ref (ad 0 0)), (1, .ref (zm)), (2, .int (nI (σ 0 0))), (4, .ref (H3.size)), (5, .ref (H4.size)), (6, .int (nI mn)), (8, .ref (H6.size)), (9, .int (nI i))]) hx hb dL_arePatterns_412 hl (k := 11) rfl (nI_1 k) (by decide) rfl (fun ls hl => ?_)
              refine lv_goto (tgt := 387) hx hb dL_arePatterns_415 (by decide) ?_
              exact ih_k _ locs ls ⟨ho, hS, (upd hz (3 * i + k) (nI (σ (112 + k) i) - 1)), (l_wd (v := fun k9 => jWd σ i k9) e_hz hi_k (if_pos hm9).symm), hat_m, hat_src, hat_wds, hat_alv, lv_sub hl [1, 2, 3, 4, 5, 6, 7, 8, 9, 10, 11, 0] rfl⟩
          · rintro k H22 locs ls hi_k ⟨ho, hS, hat_m, hat_src, hat_wds, hat_alv, hl⟩ ih_k
            refine lv_iload hx hb dL_arePatterns_300 (lv_at hl 11 rfl) ?_
            refine lv_iconst (v := nI 3) hx hb dL_arePatterns_302 (by decide) ?_
            refine q_ge (tgt := 384) hx hb (by omega) (by decide) dL_arePatterns_303 (by decide) (fun g20 => (by omega)) (fun g20 => ?_)
            obtain ⟨hV1, hV2, hV3⟩ := hV k hi_k
            refine lv_aload_n hx hb dL_arePatterns_306 rfl (lv_at hl 3 rfl) ?_
            refine lv_iconst (v := nI 5) hx hb dL_arePatterns_307 (by decide) ?_
            refine lv_iload hx hb dL_arePatterns_308 (lv_at hl 10 rfl) ?_
            refine lv_iload hx hb dL_arePatterns_310 (lv_at hl 11 rfl) ?_
            refine q_v (vx_runSW (As := [.ref (ad 0 0), .int (nI 5), .int (nI i), .int (nI k)]) (rest := []) ⟨hx, hb, hml, hown, hts⟩ (b_values l G es A σ ad hF i k hp9 hm9 hi_k) (vx_cwSW 4 hts gL_arePatterns_L_ask rfl rfl rfl (by decide +kernel) ⟨Nat.le_of_ble_eq_true rfl, Nat.le_of_ble_eq_true rfl⟩) ⟨qR.blind, qR.pre hC (hW0.same ho.2)⟩ rfl rfl hl.1 rfl (lv_room (Nat.le_of_ble_eq_true rfl)) dL_arePatterns_312 ⟨by show (206 + i) ≤ 410; omega, by show (2022 + 6 * i) ≤ 3300; omega⟩) hS (fun _ h => h.elim) (fun locs hS => ?_)
            refine q_ti (y := nI (jV σ i k)) rfl ?_
            refine lv_istore (lv' := [(12, .int (nI (jV σ i k))), (3, .int (nI 1)), (7, .int (nI (al + (jN σ i)))), (10, .int (nI (jN σ i))), (0, .ref (ad 0 0)), (1, .ref (zm)), (2, .int (nI (σ 0 0))), (4, .ref (H3.size)), (5, .ref (H4.size)), (6, .int (nI mn)), (8, .ref (H6.size)), (9, .int (nI i)), (11, .int (nI k))]) hx hb dL_arePatterns_315 hl (by decide) rfl (fun ls hl => ?_)
            refine lv_iload_n hx hb dL_arePatterns_317 rfl (lv_at hl 1 rfl) ?_
            refine q_eq0 (tgt := 376) hx hb (by decide) dL_arePatterns_318 (by decide) (fun g21 => (by omega)) (fun g21 => ?_)
            refine lv_iload hx hb dL_arePatterns_321 (lv_at hl 0 rfl) ?_
            refine lv_iconst (v := nI 1) hx hb dL_arePatterns_323 (by decide) ?_
            refine q_lt (tgt := 376) hx hb (by omega) (by decide) dL_arePatterns_324 (by decide) (fun g22 => (by omega)) (fun g22 => ?_)
            refine lv_iload hx hb dL_arePatterns_327 (lv_at hl 0 rfl) ?_
            refine lv_iload hx hb dL_arePatterns_329 (lv_at hl 3 rfl) ?_
            refine q_gt (tgt := 376) hx hb (by omega) (by omega) dL_arePatterns_331 (by decide) (fun g23 => (by omega)) (fun g23 => ?_)
            refine lv_iload hx hb dL_arePatterns_334 (lv_at hl 0 rfl) ?_
            refine lv_iconst (v := nI 1) hx hb dL_arePatterns_336 (by decide) ?_
            refine q_eq (tgt := 353) hx hb (by omega) (by decide) dL_arePatterns_337 (by decide) (fun c5 => ?_) (fun c5 => ?_)
            · skip
              refine lv_aload_n hx hb dL_arePatterns_353 rfl (lv_at hl 4 rfl) ?_
              refine lv_iconst (v := nI 3) hx hb dL_arePatterns_354 (by decide) ?_
              refine lv_iload hx hb dL_arePatterns_355 (lv_at hl 11 rfl) ?_
              refine lv_iload hx hb dL_arePatterns_357 (lv_at hl 12 rfl) ?_
              refine q_v (vx_runSW (As := [.ref (ad 0 0), .int (nI 3), .int (nI i), .int (nI k)]) (rest := []) ⟨hx, hb, hml, hown, hts⟩ (b_wordAt l G es A σ ad hF i k hp9 hm9 hi_k) (vx_cwSW 4 hts gL_arePatterns_L_ask rfl rfl rfl (by decide +kernel) ⟨Nat.le_of_ble_eq_true rfl, Nat.le_of_ble_eq_true rfl⟩) ⟨qR.blind, qR.pre hC (hW0.same ho.2)⟩ rfl rfl hl.1 rfl (lv_room (Nat.le_of_ble_eq_true rfl)) dL_arePatterns_359 ⟨by show (206 + i) ≤ 410; omega, by show (2022 + 6 * i) ≤ 3300; omega⟩) hS (fun _ h => h.elim) (fun locs hS => ?_)
              refine lv_iconst (v := -1) hx hb dL_arePatterns_362 (by decide) ?_
              refine q_eqP (P := σ (112 + k) i = 0) (tgt := 372) hx hb (q_m0 (hB _ _)) dL_arePatterns_363 (by decide) (fun c4 => ?_) (fun c4 => ?_)
              · skip
                refine lv_iconst (v := nI 1) hx hb dL_arePatterns_372 (by decide) ?_
                refine lv_goto (tgt := 377) hx hb dL_arePatterns_373 (by decide) ?_
                refine lv_istore_n (lv' := [(3, .int (nI 1)), (12, .int (nI (jV σ i k))), (7, .int (nI (al + (jN σ i)))), (10, .int (nI (jN σ i))), (0, .ref (ad 0 0)), (1, .ref (zm)), (2, .int (nI (σ 0 0))), (4, .ref (H3.size)), (5, .ref (H4.size)), (6, .int (nI mn)), (8, .ref (H6.size)), (9, .int (nI i)), (11, .int (nI k))]) hx hb dL_arePatterns_377 rfl hl (by decide) rfl (fun ls hl => ?_)
                refine lv_iinc (v := nI (k + 1)) (lv' := [(11, .int (nI (k + 1))), (3, .int (nI 1)), (12, .int (nI (jV σ i k))), (7, .int (nI (al + (jN σ i)))), (10, .int (nI (jN σ i))), (0, .ref (ad 0 0)), (1, .ref (zm)), (2, .int (nI (σ 0 0))), (4, .ref (H3.size)), (5, .ref (H4.size)), (6, .int (nI mn)), (8, .ref (H6.size)), (9, .int (nI i))]) hx hb dL_arePatterns_378 hl (k := 12) rfl (nI_1 k) (by decide) rfl (fun ls hl => ?_)
                refine lv_goto (tgt := 300) hx hb dL_arePatterns_381 (by decide) ?_
                exact ih_k _ locs ls ⟨ho, hS, hat_m, hat_src, hat_wds, hat_alv, lv_sub hl [1, 3, 4, 5, 6, 7, 8, 9, 10, 11, 12, 0] rfl⟩
              · skip
                refine lv_iload hx hb dL_arePatterns_366 (lv_at hl 0 rfl) ?_
                refine lv_iconst (v := nI 1) hx hb dL_arePatterns_368 (by decide) ?_
                refine q_ne (tgt := 376) hx hb (by omega) (by decide) dL_arePatterns_369 (by decide) (fun g24 => (by omega)) (fun g24 => ?_)
                refine lv_iconst (v := nI 1) hx hb dL_arePatterns_372 (by decide) ?_
                refine lv_goto (tgt := 377) hx hb dL_arePatterns_373 (by decide) ?_
                refine lv_istore_n (lv' := [(3, .int (nI 1)), (12, .int (nI (jV σ i k))), (7, .int (nI (al + (jN σ i)))), (10, .int (nI (jN σ i))), (0, .ref (ad 0 0)), (1, .ref (zm)), (2, .int (nI (σ 0 0))), (4, .ref (H3.size)), (5, .ref (H4.size)), (6, .int (nI mn)), (8, .ref (H6.size)), (9, .int (nI i)), (11, .int (nI k))]) hx hb dL_arePatterns_377 rfl hl (by decide) rfl (fun ls hl => ?_)
                refine lv_iinc (v := nI (k + 1)) (lv' := [(11, .int (nI (k + 1))), (3, .int (nI 1)), (12, .int (nI (jV σ i k))), (7, .int (nI (al + (jN σ i)))), (10, .int (nI (jN σ i))), (0, .ref (ad 0 0)), (1, .ref (zm)), (2, .int (nI (σ 0 0))), (4, .ref (H3.size)), (5, .ref (H4.size)), (6, .int (nI mn)), (8, .ref (H6.size)), (9, .int (nI i))]) hx hb dL_arePatterns_378 hl (k := 12) rfl (nI_1 k) (by decide) rfl (fun ls hl => ?_)
                refine lv_goto (tgt := 300) hx hb dL_arePatterns_381 (by decide) ?_
                exact ih_k _ locs ls ⟨ho, hS, hat_m, hat_src, hat_wds, hat_alv, lv_sub hl [1, 3, 4, 5, 6, 7, 8, 9, 10, 11, 12, 0] rfl⟩
            · skip
              refine lv_aload_n hx hb dL_arePatterns_340 rfl (lv_at hl 4 rfl) ?_
              refine lv_iconst (v := nI 3) hx hb dL_arePatterns_341 (by decide) ?_
              refine lv_iload hx hb dL_arePatterns_342 (lv_at hl 11 rfl) ?_
              refine lv_iload hx hb dL_arePatterns_344 (lv_at hl 12 rfl) ?_
              refine q_v (vx_runSW (As := [.ref (ad 0 0), .int (nI 3), .int (nI i), .int (nI k)]) (rest := []) ⟨hx, hb, hml, hown, hts⟩ (b_wordAt l G es A σ ad hF i k hp9 hm9 hi_k) (vx_cwSW 4 hts gL_arePatterns_L_ask rfl rfl rfl (by decide +kernel) ⟨Nat.le_of_ble_eq_true rfl, Nat.le_of_ble_eq_true rfl⟩) ⟨qR.blind, qR.pre hC (hW0.same ho.2)⟩ rfl rfl hl.1 rfl (lv_room (Nat.le_of_ble_eq_true rfl)) dL_arePatterns_346 ⟨by show (206 + i) ≤ 410; omega, by show (2022 + 6 * i) ≤ 3300; omega⟩) hS (fun _ h => h.elim) (fun locs hS => ?_)
              refine lv_iconst (v := -1) hx hb dL_arePatterns_349 (by decide) ?_
              refine q_neP (P := σ (112 + k) i = 0) (tgt := 376) hx hb (q_m0 (hB _ _)) dL_arePatterns_350 (by decide) (fun c4 => absurd (hV3 c4) c5) (fun c4 => ?_)
              refine lv_aload_n hx hb dL_arePatterns_353 rfl (lv_at hl 4 rfl) ?_
              refine lv_iconst (v := nI 3) hx hb dL_arePatterns_354 (by decide) ?_
              refine lv_iload hx hb dL_arePatterns_355 (lv_at hl 11 rfl) ?_
              refine lv_iload hx hb dL_arePatterns_357 (lv_at hl 12 rfl) ?_
              refine q_v (vx_runSW (As := [.ref (ad 0 0), .int (nI 3), .int (nI i), .int (nI k)]) (rest := []) ⟨hx, hb, hml, hown, hts⟩ (b_wordAt l G es A σ ad hF i k hp9 hm9 hi_k) (vx_cwSW 4 hts gL_arePatterns_L_ask rfl rfl rfl (by decide +kernel) ⟨Nat.le_of_ble_eq_true rfl, Nat.le_of_ble_eq_true rfl⟩) ⟨qR.blind, qR.pre hC (hW0.same ho.2)⟩ rfl rfl hl.1 rfl (lv_room (Nat.le_of_ble_eq_true rfl)) dL_arePatterns_359 ⟨by show (206 + i) ≤ 410; omega, by show (2022 + 6 * i) ≤ 3300; omega⟩) hS (fun _ h => h.elim) (fun locs hS => ?_)
              refine lv_iconst (v := -1) hx hb dL_arePatterns_362 (by decide) ?_
              refine q_eqP (P := σ (112 + k) i = 0) (tgt := 372) hx hb (q_m0 (hB _ _)) dL_arePatterns_363 (by decide) (fun c3 => ?_) (fun c3 => absurd c4 c3)
              refine lv_iconst (v := nI 1) hx hb dL_arePatterns_372 (by decide) ?_
              refine lv_goto (tgt := 377) hx hb dL_arePatterns_373 (by decide) ?_
              refine lv_istore_n (lv' := [(3, .int (nI 1)), (12, .int (nI (jV σ i k))), (7, .int (nI (al + (jN σ i)))), (10, .int (nI (jN σ i))), (0, .ref (ad 0 0)), (1, .ref (zm)), (2, .int (nI (σ 0 0))), (4, .ref (H3.size)), (5, .ref (H4.size)), (6, .int (nI mn)), (8, .ref (H6.size)), (9, .int (nI i)), (11, .int (nI k))]) hx hb dL_arePatterns_377 rfl hl (by decide) rfl (fun ls hl => ?_)
              refine lv_iinc (v := nI (k + 1)) (lv' := [(11, .int (nI (k + 1))), (3, .int (nI 1)), (12, .int (nI (jV σ i k))), (7, .int (nI (al + (jN σ i)))), (10, .int (nI (jN σ i))), (0, .ref (ad 0 0)), (1, .ref (zm)), (2, .int (nI (σ 0 0))), (4, .ref (H3.size)), (5, .ref (H4.size)), (6, .int (nI mn)), (8, .ref (H6.size)), (9, .int (nI i))]) hx hb dL_arePatterns_378 hl (k := 12) rfl (nI_1 k) (by decide) rfl (fun ls hl => ?_)
              refine lv_goto (tgt := 300) hx hb dL_arePatterns_381 (by decide) ?_
              exact ih_k _ locs ls ⟨ho, hS, hat_m, hat_src, hat_wds, hat_alv, lv_sub hl [1, 3, 4, 5, 6, 7, 8, 9, 10, 11, 12, 0] rfl⟩
        · rintro k H23 locs ls hi_k ⟨ho, hS, hy, e_hy, hat_m, hat_src, hat_wds, hat_alv, hl⟩ ih_k
          refine lv_iload hx hb dL_arePatterns_232 (lv_at hl 11 rfl) ?_
          refine lv_iconst (v := nI 3) hx hb dL_arePatterns_234 (by decide) ?_
          refine q_ge (tgt := 259) hx hb (by omega) (by decide) dL_arePatterns_235 (by decide) (fun g25 => (by omega)) (fun g25 => ?_)
          refine lv_aload hx hb dL_arePatterns_238 (lv_at hl 6 rfl) ?_
          refine lv_iconst (v := nI 3) hx hb dL_arePatterns_240 (by decide) ?_
          refine lv_iload hx hb dL_arePatterns_241 (lv_at hl 10 rfl) ?_
          refine lv_imul hx hb dL_arePatterns_243 ?_
          refine q_ti (pk_mul 3 i) ?_
          refine lv_iload hx hb dL_arePatterns_244 (lv_at hl 11 rfl) ?_
          refine lv_iadd hx hb dL_arePatterns_246 ?_
          refine q_ti (nI_add (3 * i) k) ?_
          refine lv_bipush (v := -10) hx hb dL_arePatterns_247 (by decide) ?_
          refine lv_iload hx hb dL_arePatterns_249 (lv_at hl 10 rfl) ?_
          refine lv_isub hx hb dL_arePatterns_251 ?_
          refine q_iast hx hb hC.1 hat_wds (hA _ hx_wds) hS 1 rfl (vp_in_nI (n := ((3 * i) + k)) (by omega) (by omega)) dL_arePatterns_252 (fun H24 locs hat9 hsz hoq hS => ?_)
          have hat_m := hat_m.kept (hoq _ (by omega))
          have hat_src := hat_src.kept (hoq _ (by omega))
          have hat_alv := hat_alv.kept (hoq _ (by omega))
          have hat_wds : va_at G.1 vwCl (H4.size, .inl (G.2 1, 600, .inl (upd hy (3 * i + k) (-10 - nI i)))) H24 := by rw [show (upd hy (3 * i + k) (-10 - nI i)) = _ from (l_idx (by omega)).symm]; exact hat9
          have ho := ho.put hsz hoq hx_wds
          refine lv_iinc (v := nI (k + 1)) (lv' := [(11, .int (nI (k + 1))), (10, .int (nI (jN σ i))), (0, .ref (ad 0 0)), (1, .ref (zm)), (2, .int (nI (σ 0 0))), (3, .int (nI 1)), (4, .ref (H3.size)), (5, .ref (H4.size)), (6, .int (nI mn)), (7, .int (nI al)), (8, .ref (H6.size)), (9, .int (nI i))]) hx hb dL_arePatterns_253 hl (k := 11) rfl (nI_1 k) (by decide) rfl (fun ls hl => ?_)
          refine lv_goto (tgt := 232) hx hb dL_arePatterns_256 (by decide) ?_
          exact ih_k _ locs ls ⟨ho, hS, (upd hy (3 * i + k) (-10 - nI i)), (l_wd e_hy hi_k rfl), hat_m, hat_src, hat_wds, hat_alv, lv_sub hl [1, 2, 3, 4, 5, 6, 7, 8, 9, 10, 11, 0] rfl⟩
      · skip
        refine q_ask (vx_runSW (As := [.ref (ad 0 0), .int (nI 4), .int (nI i), .int (nI 0)]) (rest := []) ⟨hx, hb, hml, hown, hts⟩ (bx_linesOf1m l hst G es A σ ad hF i hp9 hm9 (nI 0)) (vx_cwSW 4 hts gL_arePatterns_L_ask rfl rfl rfl (by decide +kernel) ⟨Nat.le_of_ble_eq_true rfl, Nat.le_of_ble_eq_true rfl⟩) ⟨qAk.blind, qAk.pre hC (hW0.same ho.2) (hZ.kept hS.2.1) (ho.up hA) hT hN⟩ rfl rfl hl.1 rfl (lv_room (Nat.le_of_ble_eq_true rfl)) dL_arePatterns_224 ⟨by show (206 + i) + 1 ≤ 410; omega, by show (2022 + 6 * i) + 6 ≤ 3300; omega⟩) hS (fun _ h => h) (fun H25 locs hz hk hS => ?_)
        have ho := ho.ext hz hk
        have hat_m := hat_m.kept (hk _ hat_m.lt)
        have hat_src := hat_src.kept (hk _ hat_src.lt)
        have hat_wds := hat_wds.kept (hk _ hat_wds.lt)
        have hat_alv := hat_alv.kept (hk _ hat_alv.lt)
        refine lv_istore (lv' := [(10, .int (-2005)), (0, .ref (ad 0 0)), (1, .ref (zm)), (2, .int (nI (σ 0 0))), (3, .int (nI 1)), (4, .ref (H3.size)), (5, .ref (H4.size)), (6, .int (nI mn)), (7, .int (nI al)), (8, .ref (H6.size)), (9, .int (nI i))]) hx hb dL_arePatterns_227 hl (by decide) rfl (fun ls hl => ?_)
        refine lv_iconst (v := nI 0) hx hb dL_arePatterns_229 (by decide) ?_
        refine lv_istore (lv' := [(11, .int (nI 0)), (10, .int (-2005)), (0, .ref (ad 0 0)), (1, .ref (zm)), (2, .int (nI (σ 0 0))), (3, .int (nI 1)), (4, .ref (H3.size)), (5, .ref (H4.size)), (6, .int (nI mn)), (7, .int (nI al)), (8, .ref (H6.size)), (9, .int (nI i))]) hx hb dL_arePatterns_230 hl (by decide) rfl (fun ls hl => ?_)
        refine q_up 3 (fun k H locs ls => qHo s.heap H ∧ va_S A s.heap H locs ∧ ∃ (hy : Nat → Int32), ((∀ p9, p9 < i → ∀ k9, k9 < 3 → hy (3 * p9 + k9) = jWd σ p9 k9) ∧ ∀ k9, k9 < k → hy (3 * i + k9) = (fun _ => -10 - nI i) k9) ∧ va_at G.1 vwCl (zm, .inl (G.2 1, 1400, .inl mf)) H ∧ va_at G.1 vwCl (H3.size, .inl (G.2 1, 200, .inl gs)) H ∧ va_at G.1 vwCl (H4.size, .inl (G.2 1, 600, .inl hy)) H ∧ va_at G.1 vwCl (H6.size, .inl (G.2 1, 4, .inl ev)) H ∧ lv_has ls 14 [(10, .int (-2005)), (0, .ref (ad 0 0)), (1, .ref (zm)), (2, .int (nI (σ 0 0))), (3, .int (nI 1)), (4, .ref (H3.size)), (5, .ref (H4.size)), (6, .int (nI mn)), (7, .int (nI al)), (8, .ref (H6.size)), (9, .int (nI i)), (11, .int (nI k))]) ?_ ?_ (i0 := 0) (Nat.zero_le _) ⟨ho, hS, hw, ⟨e_hw, fun _ z => absurd z (Nat.not_lt_zero _)⟩, hat_m, hat_src, hat_wds, hat_alv, lv_sub hl [1, 2, 3, 4, 5, 6, 7, 8, 9, 10, 11, 0] rfl⟩
        · rintro H26 locs ls ⟨ho, hS, hy, e_hy, hat_m, hat_src, hat_wds, hat_alv, hl⟩
          refine lv_iload hx hb dL_arePatterns_232 (lv_at hl 11 rfl) ?_
          refine lv_iconst (v := nI 3) hx hb dL_arePatterns_234 (by decide) ?_
          refine q_ge (tgt := 259) hx hb (by decide) (by decide) dL_arePatterns_235 (by decide) (fun g26 => ?_) (fun g26 => (by omega))
          refine lv_iload hx hb dL_arePatterns_259 (lv_at hl 0 rfl) ?_
          refine lv_sipush (v := -2005) hx hb dL_arePatterns_261 (by decide) ?_
          refine q_eqP (P := True) (tgt := 514) hx hb (iff_of_true rfl trivial) dL_arePatterns_264 (by decide) (fun c1 => ?_) (fun c1 => absurd trivial c1)
          refine lv_iinc (v := nI (i + 1)) (lv' := [(9, .int (nI (i + 1))), (10, .int (-2005)), (0, .ref (ad 0 0)), (1, .ref (zm)), (2, .int (nI (σ 0 0))), (3, .int (nI 1)), (4, .ref (H3.size)), (5, .ref (H4.size)), (6, .int (nI mn)), (7, .int (nI al)), (8, .ref (H6.size)), (11, .int (nI 3))]) hx hb dL_arePatterns_514 hl (k := 10) rfl (nI_1 i) (by decide) rfl (fun ls hl => ?_)
          refine lv_goto (tgt := 208) hx hb dL_arePatterns_517 (by decide) ?_
          refine W.widen (k := (206 + (i + 1))) (n := (2022 + 6 * (i + 1))) (by show _ ≤ (206 + (i + 1)); omega) (by show _ ≤ (2022 + 6 * (i + 1)); omega) ?_
          exact ih_i _ locs ls ⟨ho, hS, al, (by rw [e_al, qsum, show jQ σ i = 0 from if_neg hm9, Nat.add_zero]), hy, (l_wdn e_hy (fun k9 _ => (if_neg hm9).symm)), ev, (l_ev0 e_ev hm9), hat_m, hat_src, hat_wds, hat_alv, lv_sub hl [2, 3, 4, 5, 6, 7, 8, 9, 10, 0] rfl⟩
        · rintro k H27 locs ls hi_k ⟨ho, hS, hy, e_hy, hat_m, hat_src, hat_wds, hat_alv, hl⟩ ih_k
          refine lv_iload hx hb dL_arePatterns_232 (lv_at hl 11 rfl) ?_
          refine lv_iconst (v := nI 3) hx hb dL_arePatterns_234 (by decide) ?_
          refine q_ge (tgt := 259) hx hb (by omega) (by decide) dL_arePatterns_235 (by decide) (fun g27 => (by omega)) (fun g27 => ?_)
          refine lv_aload hx hb dL_arePatterns_238 (lv_at hl 6 rfl) ?_
          refine lv_iconst (v := nI 3) hx hb dL_arePatterns_240 (by decide) ?_
          refine lv_iload hx hb dL_arePatterns_241 (lv_at hl 10 rfl) ?_
          refine lv_imul hx hb dL_arePatterns_243 ?_
          refine q_ti (pk_mul 3 i) ?_
          refine lv_iload hx hb dL_arePatterns_244 (lv_at hl 11 rfl) ?_
          refine lv_iadd hx hb dL_arePatterns_246 ?_
          refine q_ti (nI_add (3 * i) k) ?_
          refine lv_bipush (v := -10) hx hb dL_arePatterns_247 (by decide) ?_
          refine lv_iload hx hb dL_arePatterns_249 (lv_at hl 10 rfl) ?_
          refine lv_isub hx hb dL_arePatterns_251 ?_
          refine q_iast hx hb hC.1 hat_wds (hA _ hx_wds) hS 1 rfl (vp_in_nI (n := ((3 * i) + k)) (by omega) (by omega)) dL_arePatterns_252 (fun H28 locs hat9 hsz hoq hS => ?_)
          have hat_m := hat_m.kept (hoq _ (by omega))
          have hat_src := hat_src.kept (hoq _ (by omega))
          have hat_alv := hat_alv.kept (hoq _ (by omega))
          have hat_wds : va_at G.1 vwCl (H4.size, .inl (G.2 1, 600, .inl (upd hy (3 * i + k) (-10 - nI i)))) H28 := by rw [show (upd hy (3 * i + k) (-10 - nI i)) = _ from (l_idx (by omega)).symm]; exact hat9
          have ho := ho.put hsz hoq hx_wds
          refine lv_iinc (v := nI (k + 1)) (lv' := [(11, .int (nI (k + 1))), (10, .int (-2005)), (0, .ref (ad 0 0)), (1, .ref (zm)), (2, .int (nI (σ 0 0))), (3, .int (nI 1)), (4, .ref (H3.size)), (5, .ref (H4.size)), (6, .int (nI mn)), (7, .int (nI al)), (8, .ref (H6.size)), (9, .int (nI i))]) hx hb dL_arePatterns_253 hl (k := 11) rfl (nI_1 k) (by decide) rfl (fun ls hl => ?_)
          refine lv_goto (tgt := 232) hx hb dL_arePatterns_256 (by decide) ?_
          exact ih_k _ locs ls ⟨ho, hS, (upd hy (3 * i + k) (-10 - nI i)), (l_wd e_hy hi_k rfl), hat_m, hat_src, hat_wds, hat_alv, lv_sub hl [1, 2, 3, 4, 5, 6, 7, 8, 9, 10, 11, 0] rfl⟩
  · rintro i H29 locs ls hi_i ⟨ho, hS, mn, e_mn, gs, e_gs, hat_m, hat_src, hat_wds, hl⟩ ih_i
    refine lv_iload hx hb dL_arePatterns_68 (lv_at hl 8 rfl) ?_
    refine lv_iload_n hx hb dL_arePatterns_70 rfl (lv_at hl 2 rfl) ?_
    refine q_ge (tgt := 200) hx hb (by omega) (q31 (hB _ _)) dL_arePatterns_71 (by decide) (fun g28 => (by omega)) (fun g28 => ?_)
    refine lv_iload_n hx hb dL_arePatterns_74 rfl (lv_at hl 3 rfl) ?_
    refine q_eq0 (tgt := 200) hx hb (by decide) dL_arePatterns_75 (by decide) (fun g29 => (by omega)) (fun g29 => ?_)
    have hp9 := hF.pat hi_i
    obtain ⟨hm9, hs9, hq9⟩ := hv.1.ip.2.1 i hi_i
    refine lv_aload_n hx hb dL_arePatterns_78 rfl (lv_at hl 0 rfl) ?_
    refine lv_iconst (v := nI 1) hx hb dL_arePatterns_79 (by decide) ?_
    refine lv_iload hx hb dL_arePatterns_80 (lv_at hl 8 rfl) ?_
    refine lv_iconst (v := nI 0) hx hb dL_arePatterns_82 (by decide) ?_
    refine q_v (vx_runSW (As := [.ref (ad 0 0), .int (nI 1), .int (nI i), .int (nI 0)]) (rest := []) ⟨hx, hb, hml, hown, hts⟩ (b_patternOf l G es A σ ad hF i hi_i (nI 0)) (vx_cwSW 4 hts gL_arePatterns_L_ask rfl rfl rfl (by decide +kernel) ⟨Nat.le_of_ble_eq_true rfl, Nat.le_of_ble_eq_true rfl⟩) ⟨qR.blind, qR.pre hC (hW0.same ho.2)⟩ rfl rfl hl.1 rfl (lv_room (Nat.le_of_ble_eq_true rfl)) dL_arePatterns_83 ⟨by show (5 + i) ≤ 410; omega, by show (818 + 6 * i) ≤ 3300; omega⟩) hS (fun _ h => h.elim) (fun locs hS => ?_)
    refine lv_istore (lv' := [(9, .int (nI (σ 68 i))), (0, .ref (ad 0 0)), (1, .ref (zm)), (2, .int (nI (σ 0 0))), (3, .int (nI 1)), (4, .ref (H3.size)), (5, .ref (H4.size)), (6, .int (nI mn)), (7, .int (nI 0)), (8, .int (nI i))]) hx hb dL_arePatterns_86 hl (by decide) rfl (fun ls hl => ?_)
    refine lv_iload hx hb dL_arePatterns_88 (lv_at hl 7 rfl) ?_
    refine lv_iload hx hb dL_arePatterns_90 (lv_at hl 0 rfl) ?_
    refine lv_iconst (v := nI 1) hx hb dL_arePatterns_92 (by decide) ?_
    refine lv_iadd hx hb dL_arePatterns_93 ?_
    refine q_ti (nI_add (σ 68 i) 1) ?_
    refine va_mmax hx hb (hml.trans hl.1.symm) hown (hts (.methodLink RL 123 Lib.Math.max.name) (List.mem_of_getElem? (i := 2) (by decide +kernel))) (hts (.static Lib.Math.max.name) (List.mem_of_getElem? (i := 3) (by decide +kernel))) (hts (.initialized "java/lang/Math") (List.mem_of_getElem? (i := 4) (by decide +kernel))) (hts (.code Lib.Math.max.name Lib.Math.max.code 2 (some .int)) (List.mem_of_getElem? (i := 5) (by decide +kernel))) (Nat.le_of_ble_eq_true rfl) (Nat.le_of_ble_eq_true rfl) (by show (5 + i) ≤ 410; omega) (by show (818 + 6 * i) ≤ 3300; omega) dL_arePatterns_94 ?_
    have hmn9 := e_mn.1
    refine q_ti (l_max (by omega) (by omega)) ?_
    refine lv_istore (lv' := [(6, .int (nI (max mn (σ 68 i + 1)))), (9, .int (nI (σ 68 i))), (0, .ref (ad 0 0)), (1, .ref (zm)), (2, .int (nI (σ 0 0))), (3, .int (nI 1)), (4, .ref (H3.size)), (5, .ref (H4.size)), (7, .int (nI 0)), (8, .int (nI i))]) hx hb dL_arePatterns_97 hl (by decide) rfl (fun ls hl => ?_)
    refine lv_aload hx hb dL_arePatterns_99 (lv_at hl 6 rfl) ?_
    refine lv_iload hx hb dL_arePatterns_101 (lv_at hl 1 rfl) ?_
    refine lv_aload_n hx hb dL_arePatterns_103 rfl (lv_at hl 3 rfl) ?_
    refine lv_bipush (v := nI 7) hx hb dL_arePatterns_104 (by decide) ?_
    refine lv_iload hx hb dL_arePatterns_106 (lv_at hl 9 rfl) ?_
    refine lv_imul hx hb dL_arePatterns_108 ?_
    refine q_ti (pk_mul 7 i) ?_
    refine r_iald hx hb hC.1 hat_m 1 rfl (i := (7 * i)) (by omega) (by decide) (v := nI (σ 64 i)) (hM i hi_i).1 dL_arePatterns_109 ?_
    refine q_iast hx hb hC.1 hat_src (hA _ hx_src) hS 1 rfl (vp_in_nI (n := (σ 68 i)) (by omega) (by omega)) dL_arePatterns_110 (fun H30 locs hat9 hsz hoq hS => ?_)
    have hat_m := hat_m.kept (hoq _ (by omega))
    have hat_wds := hat_wds.kept (hoq _ (by omega))
    have hat_src : va_at G.1 vwCl (H3.size, .inl (G.2 1, 200, .inl (upd gs (σ 68 i) (nI (σ 64 i))))) H30 := by rw [show (upd gs (σ 68 i) (nI (σ 64 i))) = _ from (l_idx (by omega)).symm]; exact hat9
    have ho := ho.put hsz hoq hx_src
    refine lv_iconst (v := nI 0) hx hb dL_arePatterns_111 (by decide) ?_
    refine lv_istore (lv' := [(10, .int (nI 0)), (6, .int (nI (max mn (σ 68 i + 1)))), (9, .int (nI (σ 68 i))), (0, .ref (ad 0 0)), (1, .ref (zm)), (2, .int (nI (σ 0 0))), (3, .int (nI 1)), (4, .ref (H3.size)), (5, .ref (H4.size)), (7, .int (nI 0)), (8, .int (nI i))]) hx hb dL_arePatterns_112 hl (by decide) rfl (fun ls hl => ?_)
    refine q_up 3 (fun k H locs ls => qHo s.heap H ∧ va_S A s.heap H locs ∧ va_at G.1 vwCl (zm, .inl (G.2 1, 1400, .inl mf)) H ∧ va_at G.1 vwCl (H3.size, .inl (G.2 1, 200, .inl (upd gs (σ 68 i) (nI (σ 64 i))))) H ∧ va_at G.1 vwCl (H4.size, .inl (G.2 1, 600, .inl (fun _ => 0))) H ∧ lv_has ls 14 [(0, .ref (ad 0 0)), (1, .ref (zm)), (2, .int (nI (σ 0 0))), (3, .int (nI 1)), (4, .ref (H3.size)), (5, .ref (H4.size)), (6, .int (nI (max mn (σ 68 i + 1)))), (7, .int (nI 0)), (8, .int (nI i)), (9, .int (nI (σ 68 i))), (10, .int (nI k))]) ?_ ?_ (i0 := 0) (Nat.zero_le _) ⟨ho, hS, hat_m, hat_src, hat_wds, lv_sub hl [3, 4, 5, 6, 7, 8, 1, 9, 10, 2, 0] rfl⟩
    · rintro H31 locs ls ⟨ho, hS, hat_m, hat_src, hat_wds, hl⟩
      refine lv_iload hx hb dL_arePatterns_114 (lv_at hl 10 rfl) ?_
      refine lv_iconst (v := nI 3) hx hb dL_arePatterns_116 (by decide) ?_
      refine q_ge (tgt := 170) hx hb (by decide) (by decide) dL_arePatterns_117 (by decide) (fun g30 => ?_) (fun g30 => (by omega))
      refine lv_iload_n hx hb dL_arePatterns_170 rfl (lv_at hl 3 rfl) ?_
      refine q_eq0 (tgt := 192) hx hb (by decide) dL_arePatterns_171 (by decide) (fun g31 => (by omega)) (fun g31 => ?_)
      refine lv_aload_n hx hb dL_arePatterns_174 rfl (lv_at hl 0 rfl) ?_
      refine lv_iconst (v := nI 3) hx hb dL_arePatterns_175 (by decide) ?_
      refine lv_iload hx hb dL_arePatterns_176 (lv_at hl 9 rfl) ?_
      refine lv_iconst (v := nI 3) hx hb dL_arePatterns_178 (by decide) ?_
      refine q_ask (vx_runSW (As := [.ref (ad 0 0), .int (nI 3), .int (nI (σ 68 i)), .int (nI 3)]) (rest := []) ⟨hx, hb, hml, hown, hts⟩ (bx_wordAt2 l hst G es A σ ad hF (σ 68 i) hp9 hm9 (nI 3) (by decide)) (vx_cwSW 4 hts gL_arePatterns_L_ask rfl rfl rfl (by decide +kernel) ⟨Nat.le_of_ble_eq_true rfl, Nat.le_of_ble_eq_true rfl⟩) ⟨qAk.blind, qAk.pre hC (hW0.same ho.2) (hZ.kept hS.2.1) (ho.up hA) hT hN⟩ rfl rfl hl.1 rfl (lv_room (Nat.le_of_ble_eq_true rfl)) dL_arePatterns_179 ⟨by show (5 + i) + 1 ≤ 410; omega, by show (818 + 6 * i) + 6 ≤ 3300; omega⟩) hS (fun _ h => h) (fun H32 locs hz hk hS => ?_)
      have ho := ho.ext hz hk
      have hat_m := hat_m.kept (hk _ hat_m.lt)
      have hat_src := hat_src.kept (hk _ hat_src.lt)
      have hat_wds := hat_wds.kept (hk _ hat_wds.lt)
      refine lv_sipush (v := -2002) hx hb dL_arePatterns_182 (by decide) ?_
      refine q_neP (P := True) (tgt := 192) hx hb (iff_of_true rfl trivial) dL_arePatterns_185 (by decide) (fun c1 => absurd trivial c1) (fun c1 => ?_)
      refine lv_iconst (v := nI 1) hx hb dL_arePatterns_188 (by decide) ?_
      refine lv_goto (tgt := 193) hx hb dL_arePatterns_189 (by decide) ?_
      refine lv_istore_n (lv' := [(3, .int (nI 1)), (0, .ref (ad 0 0)), (1, .ref (zm)), (2, .int (nI (σ 0 0))), (4, .ref (H3.size)), (5, .ref (H4.size)), (6, .int (nI (max mn (σ 68 i + 1)))), (7, .int (nI 0)), (8, .int (nI i)), (9, .int (nI (σ 68 i))), (10, .int (nI 3))]) hx hb dL_arePatterns_193 rfl hl (by decide) rfl (fun ls hl => ?_)
      refine lv_iinc (v := nI (i + 1)) (lv' := [(8, .int (nI (i + 1))), (3, .int (nI 1)), (0, .ref (ad 0 0)), (1, .ref (zm)), (2, .int (nI (σ 0 0))), (4, .ref (H3.size)), (5, .ref (H4.size)), (6, .int (nI (max mn (σ 68 i + 1)))), (7, .int (nI 0)), (9, .int (nI (σ 68 i))), (10, .int (nI 3))]) hx hb dL_arePatterns_194 hl (k := 8) rfl (nI_1 i) (by decide) rfl (fun ls hl => ?_)
      refine lv_goto (tgt := 68) hx hb dL_arePatterns_197 (by decide) ?_
      refine W.widen (k := (5 + (i + 1))) (n := (818 + 6 * (i + 1))) (by show _ ≤ (5 + (i + 1)); omega) (by show _ ≤ (818 + 6 * (i + 1)); omega) ?_
      exact ih_i _ locs ls ⟨ho, hS, (max mn (σ 68 i + 1)), (l_mx e_mn hp9), (upd gs (σ 68 i) (nI (σ 64 i))), (l_src (f := fun l => σ 68 l) (t := fun l => σ 64 l) e_gs (fun l9 h9 e9 => by have q := (hv.1.ip.2.1 l9 (by omega)).2.1; have e8 : σ 68 l9 = σ 68 i := e9; rw [e8, ← hs9] at q; exact q)), hat_m, hat_src, hat_wds, lv_sub hl [2, 3, 4, 1, 5, 6, 7, 8, 0] rfl⟩
    · rintro k H33 locs ls hi_k ⟨ho, hS, hat_m, hat_src, hat_wds, hl⟩ ih_k
      refine lv_iload hx hb dL_arePatterns_114 (lv_at hl 10 rfl) ?_
      refine lv_iconst (v := nI 3) hx hb dL_arePatterns_116 (by decide) ?_
      refine q_ge (tgt := 170) hx hb (by omega) (by decide) dL_arePatterns_117 (by decide) (fun g32 => (by omega)) (fun g32 => ?_)
      refine lv_aload_n hx hb dL_arePatterns_120 rfl (lv_at hl 0 rfl) ?_
      refine lv_iconst (v := nI 3) hx hb dL_arePatterns_121 (by decide) ?_
      refine lv_iload hx hb dL_arePatterns_122 (lv_at hl 9 rfl) ?_
      refine lv_iload hx hb dL_arePatterns_124 (lv_at hl 10 rfl) ?_
      refine q_v (vx_runSW (As := [.ref (ad 0 0), .int (nI 3), .int (nI (σ 68 i)), .int (nI k)]) (rest := []) ⟨hx, hb, hml, hown, hts⟩ (b_wordAt l G es A σ ad hF (σ 68 i) k hp9 hm9 hi_k) (vx_cwSW 4 hts gL_arePatterns_L_ask rfl rfl rfl (by decide +kernel) ⟨Nat.le_of_ble_eq_true rfl, Nat.le_of_ble_eq_true rfl⟩) ⟨qR.blind, qR.pre hC (hW0.same ho.2)⟩ rfl rfl hl.1 rfl (lv_room (Nat.le_of_ble_eq_true rfl)) dL_arePatterns_126 ⟨by show (5 + i) ≤ 410; omega, by show (818 + 6 * i) ≤ 3300; omega⟩) hS (fun _ h => h.elim) (fun locs hS => ?_)
      refine lv_istore (lv' := [(11, .int (nI (σ (112 + k) (σ 68 i)) - 1)), (0, .ref (ad 0 0)), (1, .ref (zm)), (2, .int (nI (σ 0 0))), (3, .int (nI 1)), (4, .ref (H3.size)), (5, .ref (H4.size)), (6, .int (nI (max mn (σ 68 i + 1)))), (7, .int (nI 0)), (8, .int (nI i)), (9, .int (nI (σ 68 i))), (10, .int (nI k))]) hx hb dL_arePatterns_129 hl (by decide) rfl (fun ls hl => ?_)
      refine lv_iload_n hx hb dL_arePatterns_131 rfl (lv_at hl 4 rfl) ?_
      refine q_eq0 (tgt := 162) hx hb (by decide) dL_arePatterns_132 (by decide) (fun g33 => (by omega)) (fun g33 => ?_)
      refine lv_iload hx hb dL_arePatterns_135 (lv_at hl 0 rfl) ?_
      refine lv_iconst (v := -1) hx hb dL_arePatterns_137 (by decide) ?_
      refine q_eqP (P := σ (112 + k) (σ 68 i) = 0) (tgt := 158) hx hb (q_m0 (hB _ _)) dL_arePatterns_138 (by decide) (fun c7 => ?_) (fun c7 => ?_)
      · skip
        refine lv_iconst (v := nI 1) hx hb dL_arePatterns_158 (by decide) ?_
        refine lv_goto (tgt := 163) hx hb dL_arePatterns_159 (by decide) ?_
        refine lv_istore_n (lv' := [(3, .int (nI 1)), (11, .int (nI (σ (112 + k) (σ 68 i)) - 1)), (0, .ref (ad 0 0)), (1, .ref (zm)), (2, .int (nI (σ 0 0))), (4, .ref (H3.size)), (5, .ref (H4.size)), (6, .int (nI (max mn (σ 68 i + 1)))), (7, .int (nI 0)), (8, .int (nI i)), (9, .int (nI (σ 68 i))), (10, .int (nI k))]) hx hb dL_arePatterns_163 rfl hl (by decide) rfl (fun ls hl => ?_)
        refine lv_iinc (v := nI (k + 1)) (lv' := [(10, .int (nI (k + 1))), (3, .int (nI 1)), (11, .int (nI (σ (112 + k) (σ 68 i)) - 1)), (0, .ref (ad 0 0)), (1, .ref (zm)), (2, .int (nI (σ 0 0))), (4, .ref (H3.size)), (5, .ref (H4.size)), (6, .int (nI (max mn (σ 68 i + 1)))), (7, .int (nI 0)), (8, .int (nI i)), (9, .int (nI (σ 68 i)))]) hx hb dL_arePatterns_164 hl (k := 11) rfl (nI_1 k) (by decide) rfl (fun ls hl => ?_)
        refine lv_goto (tgt := 114) hx hb dL_arePatterns_167 (by decide) ?_
        exact ih_k _ locs ls ⟨ho, hS, hat_m, hat_src, hat_wds, lv_sub hl [3, 4, 5, 1, 6, 7, 8, 9, 10, 11, 0] rfl⟩
      · skip
        refine lv_iload hx hb dL_arePatterns_141 (lv_at hl 0 rfl) ?_
        refine lv_aload_n hx hb dL_arePatterns_143 rfl (lv_at hl 2 rfl) ?_
        refine lv_bipush (v := nI 7) hx hb dL_arePatterns_144 (by decide) ?_
        refine lv_iload hx hb dL_arePatterns_146 (lv_at hl 9 rfl) ?_
        refine lv_imul hx hb dL_arePatterns_148 ?_
        refine q_ti (pk_mul 7 i) ?_
        refine lv_iconst (v := nI 2) hx hb dL_arePatterns_149 (by decide) ?_
        refine lv_iadd hx hb dL_arePatterns_150 ?_
        refine q_ti (nI_add (7 * i) 2) ?_
        refine lv_iload hx hb dL_arePatterns_151 (lv_at hl 11 rfl) ?_
        refine lv_iadd hx hb dL_arePatterns_153 ?_
        refine q_ti (nI_add ((7 * i) + 2) k) ?_
        refine r_iald hx hb hC.1 hat_m 1 rfl (i := (((7 * i) + 2) + k)) (by omega) (by decide) (v := nI (σ (80 + k) i)) ((hM i hi_i).2.1 k hi_k) dL_arePatterns_154 ?_
        refine q_neP (P := True) (tgt := 162) hx hb (iff_of_true (l_w1 ((hq9 k hi_k).resolve_left c7)) trivial) dL_arePatterns_155 (by decide) (fun c6 => absurd trivial c6) (fun c6 => ?_)
        refine lv_iconst (v := nI 1) hx hb dL_arePatterns_158 (by decide) ?_
        refine lv_goto (tgt := 163) hx hb dL_arePatterns_159 (by decide) ?_
        refine lv_istore_n (lv' := [(3, .int (nI 1)), (11, .int (nI (σ (112 + k) (σ 68 i)) - 1)), (0, .ref (ad 0 0)), (1, .ref (zm)), (2, .int (nI (σ 0 0))), (4, .ref (H3.size)), (5, .ref (H4.size)), (6, .int (nI (max mn (σ 68 i + 1)))), (7, .int (nI 0)), (8, .int (nI i)), (9, .int (nI (σ 68 i))), (10, .int (nI k))]) hx hb dL_arePatterns_163 rfl hl (by decide) rfl (fun ls hl => ?_)
        refine lv_iinc (v := nI (k + 1)) (lv' := [(10, .int (nI (k + 1))), (3, .int (nI 1)), (11, .int (nI (σ (112 + k) (σ 68 i)) - 1)), (0, .ref (ad 0 0)), (1, .ref (zm)), (2, .int (nI (σ 0 0))), (4, .ref (H3.size)), (5, .ref (H4.size)), (6, .int (nI (max mn (σ 68 i + 1)))), (7, .int (nI 0)), (8, .int (nI i)), (9, .int (nI (σ 68 i)))]) hx hb dL_arePatterns_164 hl (k := 11) rfl (nI_1 k) (by decide) rfl (fun ls hl => ?_)
        refine lv_goto (tgt := 114) hx hb dL_arePatterns_167 (by decide) ?_
        exact ih_k _ locs ls ⟨ho, hS, hat_m, hat_src, hat_wds, lv_sub hl [3, 4, 5, 1, 6, 7, 8, 9, 10, 11, 0] rfl⟩
