theorem qlive_up {G : QG} {es : Nat} {σ ad : QSt} {r i v x : Nat} {e0 : va_E} (h1 : 64 ≤ r) (h2 : r < 224) (hv : qLV G es σ ad (r / 16) i = some e0) (h : ¬ qlive (qLV G es σ ad) ad x) : ¬ qlive (qLV G es (qup σ r i v) ad) ad x := by
  rintro ⟨k, j, e, he, hx⟩
  by_cases c : k = r / 16 ∧ j = i
  · exact h ⟨r / 16, i, e0, hv, by rw [← c.1, ← c.2]; exact hx⟩
  · rw [qLV_up r i v h1 h2 c] at he
    exact h ⟨k, j, e, he, hx⟩
theorem qfNf_134 {σ : QSt} {a : Nat} : qfNf σ a 134 a = σ 0 3 + 1 := qup_s _ _ _ _
theorem qfNf_03 {σ : QSt} {a : Nat} : qfNf σ a 0 3 = σ 0 3 + 1 := (qfNf_lo (by decide) (by omega)).trans (qad_0 qfNf_ha)
theorem qfNf_row {σ : QSt} {a j : Nat} : qfNf σ a (1000 + σ 0 3) j = 0 := (qup_k (by omega)).trans (if_pos rfl)
theorem qfNf_bits {σ : QSt} {a : Nat} : qbits (qfNf σ a (1000 + σ 0 3)) 64 = fun _ => 0 := by
  funext k
  unfold qbits
  rw [qbv_zero _ _ _ (fun b hb => by rw [qfNf_row]; decide)]
  rfl
theorem qfNf_hr {σ : QSt} {a : Nat} : ∀ r j, ¬ (64 + 32 * 3 ≤ r ∧ r < 96 + 32 * 3 ∧ j = (qup σ 134 a (σ 0 3 + 1)) 0 3) → ¬ ((r = 0 ∨ r = 16 ∨ r = 32) ∧ j = 3) → ¬ (3 = 3 ∧ r = 1000 + (qup σ 134 a (σ 0 3 + 1)) 0 3) → qfNf σ a r j = qup σ 134 a (σ 0 3 + 1) r j := by
  intro r j g1 g2 g3
  have g1 : ¬ (160 ≤ r ∧ r < 192 ∧ j = σ 0 3) := g1
  have g3 : ¬ (3 = 3 ∧ r = 1000 + σ 0 3) := g3
  by_cases c : r = 134 ∧ j = a
  · rw [c.1, c.2, qfNf_134, qup_s]
  · rw [qfNf_r g1 g2 c (fun z => g3 ⟨rfl, z⟩)]
    exact (if_neg c).symm

set_option maxHeartbeats 4000000 in
set_option maxRecDepth 100000 in
theorem m_lookAtAlertF (l : Launch) (G : QG) (es : Nat) (A : Nat → Prop) (σ ad : QSt) (hF : qWF σ) (a : Nat) (ha : a < σ 0 2) (c1 : σ 128 a ≤ σ 132 a) (hno : σ 131 a = 113 ∨ σ 134 a = 0) (hn1 : σ 0 3 < 1300) (h16 : σ 16 3 + 1 < 1073741824) (hm : ∀ i j, i ≤ j → j < σ 0 0 → σ 67 i ≤ σ 67 j) (hg : ∀ l0, σ 70 l0 ≤ 1000000) (ms : Nat) (hms : σ 0 3 < σ 32 3 ∨ qcap (σ 0 3) (σ 32 3) ≤ ms) : Met l yX7_lookAtAlert wsX7_lookAtAlert ({ frames := 7, cells := 3, slots := (9 + ms), locals := 171 } : Room) (qW G es A σ ad [.ref (ad 0 0), .ref (ad 8 a)]) (qWV none (fun H1 => ∃ ad', qAE σ ad ad' ∧ qLW G es A (qfLn σ a) ad' H1) A) 3 (9 + ms) A := by
  refine Met.ofW (cc := cX7_lookAtAlert) (maxL := 2) (ret := none) (by decide) rfl ?_
  intro p e s m args below meth c s₁ B hml hv
  obtain ⟨rfl, hC, hW, hZ, hA⟩ := hv
  have hx := B.exec
  have hb := B.bytes
  have hr := B.returns
  have hts := atoms_spec (ws := wsX7_lookAtAlert) B.pre
  have hown : s.vm.findClass RX7 = some m.cls := findClass_of_methodNamed B.named
  have hlocks := B.notSynchronized
  have hB := hF.1
  have hn := hF.n
  have hS : va_S A s.heap s.heap [] := va_S.rf
  have hl := lv_entry ([.ref (ad 0 0), .ref (ad 8 a)]) (n := 2) (Nat.le_of_ble_eq_true rfl)
  rw [lg_entry_eq]
  generalize (lg_sl ([.ref (ad 0 0), .ref (ad 8 a)]) ++ List.replicate (2 - (lg_sl ([.ref (ad 0 0), .ref (ad 8 a)])).length) Slot.unset).toArray = ls at hl ⊢
  have hl : lv_has ls 2 [(0, .ref (ad 0 0)), (1, .ref (ad 8 a))] := hl
  have iRX7 : ∀ w ∈ wsX70, w ∈ wsX7_lookAtAlert := by decide +kernel
  have iRX0 : ∀ w ∈ wsX00, w ∈ wsX7_lookAtAlert := by decide +kernel
  have iRX2 : ∀ w ∈ wsX20, w ∈ wsX7_lookAtAlert := by decide +kernel
  refine lv_aload_n hx hb dX7_lookAtAlert_0 rfl (lv_at hl 1 rfl) ?_
  refine q_getN (C := RX0) (T := TX0) (N := 9) hx hb hts iRX0 hown hC.1 (hW.to (qLV8 ha)) rfl 6 (by decide) (va_Nw.use rfl (qf_RX7_213 hC)) rfl (v := .int (nI (σ 132 a))) rfl dX7_lookAtAlert_1 ?_
  refine lv_aload_n hx hb dX7_lookAtAlert_4 rfl (lv_at hl 1 rfl) ?_
  refine q_getN (C := RX0) (T := TX0) (N := 9) hx hb hts iRX0 hown hC.1 (hW.to (qLV8 ha)) rfl 2 (by decide) (va_Nw.use rfl (qf_RX7_349 hC)) rfl (v := .int (nI (σ 128 a))) rfl dX7_lookAtAlert_5 ?_
  refine q_lt (tgt := 77) hx hb (q31 (hB _ _)) (q31 (hB _ _)) dX7_lookAtAlert_8 (by decide) (fun c9 => (by omega)) (fun c9 => ?_)
  refine lv_aload_n hx hb dX7_lookAtAlert_11 rfl (lv_at hl 1 rfl) ?_
  refine q_getN (C := RX0) (T := TX0) (N := 9) hx hb hts iRX0 hown hC.1 (hW.to (qLV8 ha)) rfl 5 (by decide) (va_Nw.use rfl (qf_RX7_212 hC)) rfl (v := .int (nI (σ 131 a))) rfl dX7_lookAtAlert_12 ?_
  refine lv_bipush (v := nI 113) hx hb dX7_lookAtAlert_15 (by decide) ?_
  refine q_eq (tgt := 27) hx hb (q31 (hB _ _)) (by decide) dX7_lookAtAlert_17 (by decide) (fun c2 => ?_) (fun c2 => ?_)
  · skip
    refine lv_aload_n hx hb dX7_lookAtAlert_27 rfl (lv_at hl 1 rfl) ?_
    refine q_new (own := RX7) (C := RX2) (T := TX2) (N := 5) (ci := 5) hx hb hts iRX2 tyX2 tyX2_ok hown (hts (.classLink RX7 228 RX2) (List.mem_of_getElem? (i := 1) (by decide +kernel))) (hts (.instantiable RX2 5) (List.mem_of_getElem? (i := 2) (by decide +kernel))) (hts (.initialized RX2) (List.mem_of_getElem? (i := 3) (by decide +kernel))) hC.1 hS rfl [.null, .int (nI 0), .int (nI 0), .int (nI 0), .null] (fun j hj => by match j, hj with | 0, _ => rfl | 1, _ => rfl | 2, _ => rfl | 3, _ => rfl | 4, _ => rfl) (by show 0 + 1 ≤ 3; omega) (by show 0 + 5 ≤ 9 + ms; omega) dX7_lookAtAlert_28 (fun H1 hat hzH1 hko hS => ?_)
    have n0 := q_nolive hW (Nat.le_refl _)
    have hW := q_kept1 hW hko
    have n1 := q_nolive hW (Nat.le_refl _)
    refine lv_dup hx hb dX7_lookAtAlert_31 rfl ?_
    refine lv_aload_n hx hb dX7_lookAtAlert_32 rfl (lv_at hl 1 rfl) ?_
    refine lv_aload_n hx hb dX7_lookAtAlert_33 rfl (lv_at hl 0 rfl) ?_
    refine q_get (C := RX7) (T := TX7) (N := 7) hx hb hts iRX7 hown hC.1 (hW.to qLV0) rfl 6 (by decide) (hts (.fieldLink RX7 76 "LogWeave" "now" "I") (List.mem_of_getElem? (i := 4) (by decide +kernel))) rfl (v := .int (nI (σ 1 0))) rfl dX7_lookAtAlert_34 ?_
    refine q_wn (va_runIN (As := [.ref (ad 8 a), .int (nI (σ 1 0))]) (rest := [.ref (s.heap.size), .ref (ad 8 a)]) ⟨hx, hb, hml, hown, hts⟩ (m_initFiring l G (fun x => x = s.heap.size ∨ H1.size ≤ x) H1.size s.heap.size (ad 8 a) (nI (σ 1 0)) (fun q h => Or.inr h)) ⟨va_cnB 2 hts gX7_lookAtAlert_X2_init_n352 rfl rfl rfl (qm_RX7_352 hC) (hts (.initialized RX2) (List.mem_of_getElem? (i := 3) (by decide +kernel))) (by decide +kernel) ⟨Nat.le_of_ble_eq_true rfl, Nat.le_of_ble_eq_true rfl⟩, rfl, (hts (.instanceMethod yX2_init) (List.mem_of_getElem? (i := 6) (by decide +kernel)))⟩ ⟨qK.blind, qK.pre hC hat (Or.inl rfl) rfl⟩ rfl rfl hl.1 rfl (lv_room (Nat.le_of_ble_eq_true rfl)) dX7_lookAtAlert_37 ⟨Nat.le_of_ble_eq_true rfl, Nat.le_add_right_of_le (Nat.le_of_ble_eq_true rfl)⟩) hS (fun x hx => by rcases hx with rfl | hx; exact hA _ (Nat.le_refl _); exact hA _ (by omega)) (fun x hx => by rcases hx with rfl | hx; exact hA _ (Nat.le_refl _); exact hA _ (by omega)) (fun H2 locs hPP hz2 hk hS => ?_)
    obtain ⟨hv1, hv0⟩ := hPP
    have hW := q_kept2 hW n0 (fun q h1 h2 => hk q h1 (fun z => z.elim h2 (fun z => by omega)))
    have hW9 : qLW G es A σ (qup (qup ad 10 (σ 0 3) s.heap.size) 11 (σ 0 3) H1.size) H2 := hW.pend hF (J := 3) (by decide) _ _
    have n19 : ¬ qlive (qLV G es σ (qup (qup ad 10 (σ 0 3) s.heap.size) 11 (σ 0 3) H1.size)) (qup (qup ad 10 (σ 0 3) s.heap.size) 11 (σ 0 3) H1.size) s.heap.size := qlive_pend hF (J := 3) (by decide) n0
    have n09 : ¬ qlive (qLV G es σ (qup (qup ad 10 (σ 0 3) s.heap.size) 11 (σ 0 3) H1.size)) (qup (qup ad 10 (σ 0 3) s.heap.size) 11 (σ 0 3) H1.size) H1.size := qlive_pend hF (J := 3) (by decide) n1
    have hat9 : va_at G.1 vwCl (ad 8 a, _) H2 := hW9.to (qLV8 ha)
    refine q_putN (C := RX0) (T := TX0) (N := 9) (ty := .object "LogWeave$Firing") (v := .ref s.heap.size) hx hb hts iRX0 tyX0 tyX0_ok nmX0 hown hC.1 hat9 (hW9.in (qLV8 ha)) hS rfl 8 (by decide) (va_Nw.use rfl (qf_RX7_247 hC)) rfl rfl (by decide +kernel) rfl rfl (Nat.le_of_ble_eq_true rfl) dX7_lookAtAlert_40 (fun H3 locs hat hsz hoq hS => ?_)
    have hAD : (qup (qup ad 10 (σ 0 3) s.heap.size) 11 (σ 0 3) H1.size) 10 (σ 0 3) = s.heap.size := (qup_k (by decide)).trans (qup_s _ _ _ _)
    have hv1 := hv1.kept (hoq _ (fun z => n0 ⟨8, a, _, qLV8 ha, z.symm⟩))
    have hv0 := hv0.kept (hoq _ (fun z => n1 ⟨8, a, _, qLV8 ha, z.symm⟩))
    have n19 := qlive_up (r := 134) (i := a) (v := σ 0 3 + 1) (by decide) (by decide) (qLV8 ha) n19
    have n09 := qlive_up (r := 134) (i := a) (v := σ 0 3 + 1) (by decide) (by decide) (qLV8 ha) n09
    have hW9 := hW9.up 134 a (σ 0 3 + 1) (by decide) (by decide) (qLV8 ha) ((qLV8 (G := G) (es := es) (σ := (qup σ 134 a (σ 0 3 + 1))) (ad := (qup (qup ad 10 (σ 0 3) s.heap.size) 11 (σ 0 3) H1.size)) ha).trans (by rw [qup_s, if_neg (Nat.succ_ne_zero _), Nat.add_sub_cancel, hAD]; rfl)) hat hoq
    refine lv_aload_n hx hb dX7_lookAtAlert_43 rfl (lv_at hl 0 rfl) ?_
    refine q_get (C := RX7) (T := TX7) (N := 7) hx hb hts iRX7 hown hC.1 (hW9.to qLV0) rfl 3 (by decide) (hts (.fieldLink RX7 22 "LogWeave" "firingList" "Ljava/util/ArrayList;") (List.mem_of_getElem? (i := 5) (by decide +kernel))) rfl (v := .ref (ad 1 3)) rfl dX7_lookAtAlert_44 ?_
    refine lv_aload_n hx hb dX7_lookAtAlert_47 rfl (lv_at hl 1 rfl) ?_
    refine q_getN (C := RX0) (T := TX0) (N := 9) hx hb hts iRX0 hown hC.1 (hW9.to (qLV8 ha)) rfl 8 (by decide) (va_Nw.use rfl (qf_RX7_247 hC)) rfl (v := (if (qup σ 134 a (σ 0 3 + 1)) 134 a = 0 then .null else .ref ((qup (qup ad 10 (σ 0 3) s.heap.size) 11 (σ 0 3) H1.size) 10 ((qup σ 134 a (σ 0 3 + 1)) 134 a - 1)))) rfl dX7_lookAtAlert_48 ?_
    refine q_t (w := .ref s.heap.size) (by rw [qup_s, if_neg (Nat.succ_ne_zero _), Nat.add_sub_cancel, hAD]) ?_
    refine q_ad (va_runV (As := [.ref (s.heap.size)]) (rest := []) ⟨hx, hb, hml, hown, hts⟩ (m_add l G es A (qup σ 134 a (σ 0 3 + 1)) (qup (qup ad 10 (σ 0 3) s.heap.size) 11 (σ 0 3) H1.size) 3 (hF.cap 3) (hF.c 3) (by decide) s.heap.size [.ref (ad 8 a), .int (nI (σ 1 0)), .int (nI 0), .int (nI 0), .ref H1.size] ms hms) (cwV 1 hts gX7_lookAtAlert_Jx4a65c_add_9ea2d rfl rfl rfl (by decide +kernel) ⟨Nat.le_of_ble_eq_true rfl, Nat.le_of_ble_eq_true rfl⟩) ⟨qWv.blind, qrecv hC (hW9.to (qLV1 (j := 3) (by decide))) rfl, qWv.pre hC hW9 hv1 n19 hZ hS (fun _ h => h) (fun q h => hA q (Nat.le_trans hS.1 h))⟩ rfl rfl hl.1 rfl (lv_room (Nat.le_of_ble_eq_true rfl)) dX7_lookAtAlert_51 ⟨by show 0 + 1 + 1 + 1 ≤ 3; omega, by show 0 + 5 + 4 + ms ≤ 9 + ms; omega⟩) hS (fun _ h => h) (fun _ h => h) (fun H5 locs hG hz5 hS => ?_)
    have e3 : qLV G es (qfNf σ a) (qup (qup ad 10 (σ 0 3) s.heap.size) 11 (σ 0 3) H1.size) 10 (σ 0 3) = some (.inr (5, [.ref (ad 8 a), .int (nI (σ 1 0)), .int (nI 0), .int (nI 0), .ref H1.size])) := by rw [qLV10 (by rw [qfNf_03]; omega), show qfNf σ a 160 (σ 0 3) = a from (qfNf_lo (by decide) (by omega)).trans (qad_in rfl (by decide)), show qfNf σ a 161 (σ 0 3) = σ 1 0 from (qfNf_lo (by decide) (by omega)).trans (qad_in rfl (by decide)), show qfNf σ a 162 (σ 0 3) = 0 from (qfNf_lo (by decide) (by omega)).trans (qad_in rfl (by decide)), show qfNf σ a 163 (σ 0 3) = 0 from (qfNf_lo (by decide) (by omega)).trans (qad_in rfl (by decide)), qup_s]; rfl
    have e4 : qLV G es (qfNf σ a) (qup (qup ad 10 (σ 0 3) s.heap.size) 11 (σ 0 3) H1.size) 11 (σ 0 3) = some (.inl (G.2 2, 4, .inr (.inl (fun _ => 0)))) := by rw [qLV11 (by rw [qfNf_03]; omega), qfNf_bits]
    obtain ⟨q9, hW, -⟩ := hW9.grow (σ' := qfNf σ a) (J := 3) (by decide) (hF.c 3) hG (fun q h => hA q (Nat.le_trans (by omega) h)) hv1 hv0 n19 n09 (by omega) (hA _ (Nat.le_refl _)) (hA _ (by omega)) hAD (qup_s _ _ _ _) qfNf_03 ((qfNf_lo (by decide) (by omega)).trans (qad_16 qfNf_ha)) ((qfNf_lo (by decide) (by omega)).trans (qad_32 qfNf_ha)) qfNf_hr e3 e4
    have hF8 := qfNf_wf hF ha hn1 h16
    have hlo : ∀ r j, r < 160 → r ≠ 134 → ¬ ((r = 0 ∨ r = 16 ∨ r = 32) ∧ j = 3) → (qfNf σ a) r j = σ r j := fun r j g1 g2 g3 => qfNf_r (by omega) g3 (by omega) (by omega)
    have ha8 : a < (qfNf σ a) 0 2 := by rw [hlo 0 2 (by omega) (by omega) (by omega)]; exact ha
    refine lv_pop hx hb dX7_lookAtAlert_54 rfl ?_
    refine lv_aload_n hx hb dX7_lookAtAlert_55 rfl (lv_at hl 1 rfl) ?_
    refine lv_bipush (v := nI 102) hx hb dX7_lookAtAlert_56 (by decide) ?_
    refine q_putN (C := RX0) (T := TX0) (N := 9) (ty := .char) (v := .int (nI 102)) hx hb hts iRX0 tyX0 tyX0_ok nmX0 hown hC.1 (hW.to (qLV8 ha8)) (hW.in (qLV8 ha8)) hS rfl 5 (by decide) (va_Nw.use rfl (qf_RX7_212 hC)) rfl rfl (by decide +kernel) rfl rfl (Nat.le_of_ble_eq_true rfl) dX7_lookAtAlert_58 (fun H locs hat hsz hoq hS => ?_)
    have hW := hW.up 131 a 102 (by decide) (by decide) (qLV8 ha8) ((qLV8 (G := G) (es := es) (σ := qup (qfNf σ a) 131 a 102) (ad := (qup (qup (qup ad 10 (σ 0 3) s.heap.size) 11 (σ 0 3) H1.size) 2 3 q9)) ha8).trans (by rw [qup_s]; rfl)) hat hoq
    refine lv_aload_n hx hb dX7_lookAtAlert_61 rfl (lv_at hl 1 rfl) ?_
    refine lv_iconst (v := nI 0) hx hb dX7_lookAtAlert_62 (by decide) ?_
    refine q_putN (C := RX0) (T := TX0) (N := 9) (ty := .int) (v := .int (nI 0)) hx hb hts iRX0 tyX0 tyX0_ok nmX0 hown hC.1 (hW.to (qLV8 ha8)) (hW.in (qLV8 ha8)) hS rfl 7 (by decide) (va_Nw.use rfl (qf_RX7_220 hC)) rfl rfl (by decide +kernel) rfl rfl (Nat.le_of_ble_eq_true rfl) dX7_lookAtAlert_63 (fun H locs hat hsz hoq hS => ?_)
    have hW := hW.up 133 a 0 (by decide) (by decide) (qLV8 ha8) ((qLV8 (G := G) (es := es) (σ := qup (qup (qfNf σ a) 131 a 102) 133 a 0) (ad := (qup (qup (qup ad 10 (σ 0 3) s.heap.size) 11 (σ 0 3) H1.size) 2 3 q9)) ha8).trans (by rw [qup_s]; rfl)) hat hoq
    refine lv_aload_n hx hb dX7_lookAtAlert_66 rfl (lv_at hl 0 rfl) ?_
    refine lv_aload_n hx hb dX7_lookAtAlert_67 rfl (lv_at hl 1 rfl) ?_
    refine q_getN (C := RX0) (T := TX0) (N := 9) hx hb hts iRX0 hown hC.1 (hW.to (qLV8 ha8)) rfl 8 (by decide) (va_Nw.use rfl (qf_RX7_247 hC)) rfl (v := (if (qup (qup (qfNf σ a) 131 a 102) 133 a 0) 134 a = 0 then .null else .ref ((qup (qup (qup ad 10 (σ 0 3) s.heap.size) 11 (σ 0 3) H1.size) 2 3 q9) 10 ((qup (qup (qfNf σ a) 131 a 102) 133 a 0) 134 a - 1)))) rfl dX7_lookAtAlert_68 ?_
    refine q_t (w := .ref ((qup (qup (qup ad 10 (σ 0 3) s.heap.size) 11 (σ 0 3) H1.size) 2 3 q9) 10 (σ 0 3))) (by rw [show (qup (qup (qfNf σ a) 131 a 102) 133 a 0) 134 a = σ 0 3 + 1 from qfNf_134, if_neg (Nat.succ_ne_zero _), Nat.add_sub_cancel]) ?_
    have hF9 : qWF (qup (qup (qfNf σ a) 131 a 102) 133 a 0) := (hF8.up 131 a 102 (by decide) (by decide) (by decide) (fun z => absurd z (by decide)) (fun z => absurd z (by decide)) (fun _ => by decide) (fun z => absurd z (by decide))).up 133 a 0 (by decide) (by decide) (by decide) (fun z => absurd z (by decide)) (fun z => absurd z (by decide)) (fun z => absurd z (by decide)) (fun z => absurd z (by decide))
    have hm9 : ∀ i j, i ≤ j → j < (qup (qup (qfNf σ a) 131 a 102) 133 a 0) 0 0 → (qup (qup (qfNf σ a) 131 a 102) 133 a 0) 67 i ≤ (qup (qup (qfNf σ a) 131 a 102) 133 a 0) 67 j := fun i j g1 g2 => by have g2 : j < (qfNf σ a) 0 0 := g2; show (qfNf σ a) 67 i ≤ (qfNf σ a) 67 j; rw [hlo 0 0 (by omega) (by omega) (by omega)] at g2; rw [hlo 67 i (by omega) (by omega) (by omega), hlo 67 j (by omega) (by omega) (by omega)]; exact hm i j g1 g2
    have hg9 : ∀ l0, (qup (qup (qfNf σ a) 131 a 102) 133 a 0) 70 l0 ≤ 1000000 := fun l0 => by show (qfNf σ a) 70 l0 ≤ 1000000; rw [hlo 70 l0 (by omega) (by omega) (by omega)]; exact hg l0
    have hs9 : (qup (qup (qfNf σ a) 131 a 102) 133 a 0) 163 (σ 0 3) ≤ 1000000 := by show (qfNf σ a) 163 (σ 0 3) ≤ 1000000; rw [show (qfNf σ a) 163 (σ 0 3) = 0 from (qfNf_lo (by decide) (by omega)).trans (qad_in rfl (by decide))]; decide
    have hf9 : σ 0 3 < (qup (qup (qfNf σ a) 131 a 102) 133 a 0) 0 3 := by show σ 0 3 < (qfNf σ a) 0 3; rw [qfNf_03]; omega
    have hfa9 : (qup (qup (qfNf σ a) 131 a 102) 133 a 0) 160 (σ 0 3) = a := by show (qfNf σ a) 160 (σ 0 3) = a; exact (qfNf_lo (by decide) (by omega)).trans (qad_in rfl (by decide))
    refine q_wn (va_runV (As := [.ref ((qup (qup (qup ad 10 (σ 0 3) s.heap.size) 11 (σ 0 3) H1.size) 2 3 q9) 10 (σ 0 3))]) (rest := []) ⟨hx, hb, hml, hown, hts⟩ (m_standOnCounted l G es A (qup (qup (qfNf σ a) 131 a 102) 133 a 0) (qup (qup (qup ad 10 (σ 0 3) s.heap.size) 11 (σ 0 3) H1.size) 2 3 q9) hF9 (σ 0 3) a hf9 hfa9 hm9 hs9 hg9) (cwV 1 hts gX7_lookAtAlert_X7_standOnCounted rfl rfl rfl (by decide +kernel) ⟨Nat.le_of_ble_eq_true rfl, Nat.le_of_ble_eq_true rfl⟩) ⟨qW.blind, qrecv hC (hW.to qLV0) rfl, qW.pre hC hW hZ hS (fun _ h => h) (fun q h => hA q (Nat.le_trans hS.1 h))⟩ rfl rfl hl.1 rfl (lv_room (Nat.le_of_ble_eq_true rfl)) dX7_lookAtAlert_71 ⟨by show 0 + 1 + 1 + 1 + 0 ≤ 3; omega, by show 0 + 5 + 4 + ms + 0 ≤ 9 + ms; omega⟩) hS (fun _ h => h) (fun _ h => h) (fun H6 locs hW hz hk hS => ?_)
    refine lv_goto (tgt := 112) hx hb dX7_lookAtAlert_74 (by decide) ?_
    refine W.widen (k := 3) (n := 9 + ms) (by omega) (by omega) ?_
    exact W.vret hx hb hr (fun t ht _ => ⟨rfl, by rw [ht]; exact ⟨_, qAE.pend (J := 3), hW⟩, hS.F ht⟩) hS.2.2 dX7_lookAtAlert_112
  · skip
    have h0 : σ 134 a = 0 := hno.resolve_left c2
    refine lv_aload_n hx hb dX7_lookAtAlert_20 rfl (lv_at hl 1 rfl) ?_
    refine q_getN (C := RX0) (T := TX0) (N := 9) hx hb hts iRX0 hown hC.1 (hW.to (qLV8 ha)) rfl 8 (by decide) (va_Nw.use rfl (qf_RX7_247 hC)) rfl (v := (if σ 134 a = 0 then .null else .ref (ad 10 (σ 134 a - 1)))) rfl dX7_lookAtAlert_21 ?_
    refine q_t (w := .null) (if_pos h0) ?_
    refine lv_ifnonnullN hx hb dX7_lookAtAlert_24 ?_
    refine lv_aload_n hx hb dX7_lookAtAlert_27 rfl (lv_at hl 1 rfl) ?_
    refine q_new (own := RX7) (C := RX2) (T := TX2) (N := 5) (ci := 5) hx hb hts iRX2 tyX2 tyX2_ok hown (hts (.classLink RX7 228 RX2) (List.mem_of_getElem? (i := 1) (by decide +kernel))) (hts (.instantiable RX2 5) (List.mem_of_getElem? (i := 2) (by decide +kernel))) (hts (.initialized RX2) (List.mem_of_getElem? (i := 3) (by decide +kernel))) hC.1 hS rfl [.null, .int (nI 0), .int (nI 0), .int (nI 0), .null] (fun j hj => by match j, hj with | 0, _ => rfl | 1, _ => rfl | 2, _ => rfl | 3, _ => rfl | 4, _ => rfl) (by show 0 + 1 ≤ 3; omega) (by show 0 + 5 ≤ 9 + ms; omega) dX7_lookAtAlert_28 (fun H1 hat hzH1 hko hS => ?_)
    have n0 := q_nolive hW (Nat.le_refl _)
    have hW := q_kept1 hW hko
    have n1 := q_nolive hW (Nat.le_refl _)
    refine lv_dup hx hb dX7_lookAtAlert_31 rfl ?_
    refine lv_aload_n hx hb dX7_lookAtAlert_32 rfl (lv_at hl 1 rfl) ?_
    refine lv_aload_n hx hb dX7_lookAtAlert_33 rfl (lv_at hl 0 rfl) ?_
    refine q_get (C := RX7) (T := TX7) (N := 7) hx hb hts iRX7 hown hC.1 (hW.to qLV0) rfl 6 (by decide) (hts (.fieldLink RX7 76 "LogWeave" "now" "I") (List.mem_of_getElem? (i := 4) (by decide +kernel))) rfl (v := .int (nI (σ 1 0))) rfl dX7_lookAtAlert_34 ?_
    refine q_wn (va_runIN (As := [.ref (ad 8 a), .int (nI (σ 1 0))]) (rest := [.ref (s.heap.size), .ref (ad 8 a)]) ⟨hx, hb, hml, hown, hts⟩ (m_initFiring l G (fun x => x = s.heap.size ∨ H1.size ≤ x) H1.size s.heap.size (ad 8 a) (nI (σ 1 0)) (fun q h => Or.inr h)) ⟨va_cnB 2 hts gX7_lookAtAlert_X2_init_n352 rfl rfl rfl (qm_RX7_352 hC) (hts (.initialized RX2) (List.mem_of_getElem? (i := 3) (by decide +kernel))) (by decide +kernel) ⟨Nat.le_of_ble_eq_true rfl, Nat.le_of_ble_eq_true rfl⟩, rfl, (hts (.instanceMethod yX2_init) (List.mem_of_getElem? (i := 6) (by decide +kernel)))⟩ ⟨qK.blind, qK.pre hC hat (Or.inl rfl) rfl⟩ rfl rfl hl.1 rfl (lv_room (Nat.le_of_ble_eq_true rfl)) dX7_lookAtAlert_37 ⟨Nat.le_of_ble_eq_true rfl, Nat.le_add_right_of_le (Nat.le_of_ble_eq_true rfl)⟩) hS (fun x hx => by rcases hx with rfl | hx; exact hA _ (Nat.le_refl _); exact hA _ (by omega)) (fun x hx => by rcases hx with rfl | hx; exact hA _ (Nat.le_refl _); exact hA _ (by omega)) (fun H2 locs hPP hz2 hk hS => ?_)
    obtain ⟨hv1, hv0⟩ := hPP
    have hW := q_kept2 hW n0 (fun q h1 h2 => hk q h1 (fun z => z.elim h2 (fun z => by omega)))
    have hW9 : qLW G es A σ (qup (qup ad 10 (σ 0 3) s.heap.size) 11 (σ 0 3) H1.size) H2 := hW.pend hF (J := 3) (by decide) _ _
    have n19 : ¬ qlive (qLV G es σ (qup (qup ad 10 (σ 0 3) s.heap.size) 11 (σ 0 3) H1.size)) (qup (qup ad 10 (σ 0 3) s.heap.size) 11 (σ 0 3) H1.size) s.heap.size := qlive_pend hF (J := 3) (by decide) n0
    have n09 : ¬ qlive (qLV G es σ (qup (qup ad 10 (σ 0 3) s.heap.size) 11 (σ 0 3) H1.size)) (qup (qup ad 10 (σ 0 3) s.heap.size) 11 (σ 0 3) H1.size) H1.size := qlive_pend hF (J := 3) (by decide) n1
    have hat9 : va_at G.1 vwCl (ad 8 a, _) H2 := hW9.to (qLV8 ha)
    refine q_putN (C := RX0) (T := TX0) (N := 9) (ty := .object "LogWeave$Firing") (v := .ref s.heap.size) hx hb hts iRX0 tyX0 tyX0_ok nmX0 hown hC.1 hat9 (hW9.in (qLV8 ha)) hS rfl 8 (by decide) (va_Nw.use rfl (qf_RX7_247 hC)) rfl rfl (by decide +kernel) rfl rfl (Nat.le_of_ble_eq_true rfl) dX7_lookAtAlert_40 (fun H3 locs hat hsz hoq hS => ?_)
    have hAD : (qup (qup ad 10 (σ 0 3) s.heap.size) 11 (σ 0 3) H1.size) 10 (σ 0 3) = s.heap.size := (qup_k (by decide)).trans (qup_s _ _ _ _)
    have hv1 := hv1.kept (hoq _ (fun z => n0 ⟨8, a, _, qLV8 ha, z.symm⟩))
    have hv0 := hv0.kept (hoq _ (fun z => n1 ⟨8, a, _, qLV8 ha, z.symm⟩))
    have n19 := qlive_up (r := 134) (i := a) (v := σ 0 3 + 1) (by decide) (by decide) (qLV8 ha) n19
    have n09 := qlive_up (r := 134) (i := a) (v := σ 0 3 + 1) (by decide) (by decide) (qLV8 ha) n09
    have hW9 := hW9.up 134 a (σ 0 3 + 1) (by decide) (by decide) (qLV8 ha) ((qLV8 (G := G) (es := es) (σ := (qup σ 134 a (σ 0 3 + 1))) (ad := (qup (qup ad 10 (σ 0 3) s.heap.size) 11 (σ 0 3) H1.size)) ha).trans (by rw [qup_s, if_neg (Nat.succ_ne_zero _), Nat.add_sub_cancel, hAD]; rfl)) hat hoq
    refine lv_aload_n hx hb dX7_lookAtAlert_43 rfl (lv_at hl 0 rfl) ?_
    refine q_get (C := RX7) (T := TX7) (N := 7) hx hb hts iRX7 hown hC.1 (hW9.to qLV0) rfl 3 (by decide) (hts (.fieldLink RX7 22 "LogWeave" "firingList" "Ljava/util/ArrayList;") (List.mem_of_getElem? (i := 5) (by decide +kernel))) rfl (v := .ref (ad 1 3)) rfl dX7_lookAtAlert_44 ?_
    refine lv_aload_n hx hb dX7_lookAtAlert_47 rfl (lv_at hl 1 rfl) ?_
    refine q_getN (C := RX0) (T := TX0) (N := 9) hx hb hts iRX0 hown hC.1 (hW9.to (qLV8 ha)) rfl 8 (by decide) (va_Nw.use rfl (qf_RX7_247 hC)) rfl (v := (if (qup σ 134 a (σ 0 3 + 1)) 134 a = 0 then .null else .ref ((qup (qup ad 10 (σ 0 3) s.heap.size) 11 (σ 0 3) H1.size) 10 ((qup σ 134 a (σ 0 3 + 1)) 134 a - 1)))) rfl dX7_lookAtAlert_48 ?_
    refine q_t (w := .ref s.heap.size) (by rw [qup_s, if_neg (Nat.succ_ne_zero _), Nat.add_sub_cancel, hAD]) ?_
    refine q_ad (va_runV (As := [.ref (s.heap.size)]) (rest := []) ⟨hx, hb, hml, hown, hts⟩ (m_add l G es A (qup σ 134 a (σ 0 3 + 1)) (qup (qup ad 10 (σ 0 3) s.heap.size) 11 (σ 0 3) H1.size) 3 (hF.cap 3) (hF.c 3) (by decide) s.heap.size [.ref (ad 8 a), .int (nI (σ 1 0)), .int (nI 0), .int (nI 0), .ref H1.size] ms hms) (cwV 1 hts gX7_lookAtAlert_Jx4a65c_add_9ea2d rfl rfl rfl (by decide +kernel) ⟨Nat.le_of_ble_eq_true rfl, Nat.le_of_ble_eq_true rfl⟩) ⟨qWv.blind, qrecv hC (hW9.to (qLV1 (j := 3) (by decide))) rfl, qWv.pre hC hW9 hv1 n19 hZ hS (fun _ h => h) (fun q h => hA q (Nat.le_trans hS.1 h))⟩ rfl rfl hl.1 rfl (lv_room (Nat.le_of_ble_eq_true rfl)) dX7_lookAtAlert_51 ⟨by show 0 + 1 + 1 + 1 ≤ 3; omega, by show 0 + 5 + 4 + ms ≤ 9 + ms; omega⟩) hS (fun _ h => h) (fun _ h => h) (fun H5 locs hG hz5 hS => ?_)
    have e3 : qLV G es (qfNf σ a) (qup (qup ad 10 (σ 0 3) s.heap.size) 11 (σ 0 3) H1.size) 10 (σ 0 3) = some (.inr (5, [.ref (ad 8 a), .int (nI (σ 1 0)), .int (nI 0), .int (nI 0), .ref H1.size])) := by rw [qLV10 (by rw [qfNf_03]; omega), show qfNf σ a 160 (σ 0 3) = a from (qfNf_lo (by decide) (by omega)).trans (qad_in rfl (by decide)), show qfNf σ a 161 (σ 0 3) = σ 1 0 from (qfNf_lo (by decide) (by omega)).trans (qad_in rfl (by decide)), show qfNf σ a 162 (σ 0 3) = 0 from (qfNf_lo (by decide) (by omega)).trans (qad_in rfl (by decide)), show qfNf σ a 163 (σ 0 3) = 0 from (qfNf_lo (by decide) (by omega)).trans (qad_in rfl (by decide)), qup_s]; rfl
    have e4 : qLV G es (qfNf σ a) (qup (qup ad 10 (σ 0 3) s.heap.size) 11 (σ 0 3) H1.size) 11 (σ 0 3) = some (.inl (G.2 2, 4, .inr (.inl (fun _ => 0)))) := by rw [qLV11 (by rw [qfNf_03]; omega), qfNf_bits]
    obtain ⟨q9, hW, -⟩ := hW9.grow (σ' := qfNf σ a) (J := 3) (by decide) (hF.c 3) hG (fun q h => hA q (Nat.le_trans (by omega) h)) hv1 hv0 n19 n09 (by omega) (hA _ (Nat.le_refl _)) (hA _ (by omega)) hAD (qup_s _ _ _ _) qfNf_03 ((qfNf_lo (by decide) (by omega)).trans (qad_16 qfNf_ha)) ((qfNf_lo (by decide) (by omega)).trans (qad_32 qfNf_ha)) qfNf_hr e3 e4
    have hF8 := qfNf_wf hF ha hn1 h16
    have hlo : ∀ r j, r < 160 → r ≠ 134 → ¬ ((r = 0 ∨ r = 16 ∨ r = 32) ∧ j = 3) → (qfNf σ a) r j = σ r j := fun r j g1 g2 g3 => qfNf_r (by omega) g3 (by omega) (by omega)
    have ha8 : a < (qfNf σ a) 0 2 := by rw [hlo 0 2 (by omega) (by omega) (by omega)]; exact ha
    refine lv_pop hx hb dX7_lookAtAlert_54 rfl ?_
    refine lv_aload_n hx hb dX7_lookAtAlert_55 rfl (lv_at hl 1 rfl) ?_
    refine lv_bipush (v := nI 102) hx hb dX7_lookAtAlert_56 (by decide) ?_
    refine q_putN (C := RX0) (T := TX0) (N := 9) (ty := .char) (v := .int (nI 102)) hx hb hts iRX0 tyX0 tyX0_ok nmX0 hown hC.1 (hW.to (qLV8 ha8)) (hW.in (qLV8 ha8)) hS rfl 5 (by decide) (va_Nw.use rfl (qf_RX7_212 hC)) rfl rfl (by decide +kernel) rfl rfl (Nat.le_of_ble_eq_true rfl) dX7_lookAtAlert_58 (fun H locs hat hsz hoq hS => ?_)
    have hW := hW.up 131 a 102 (by decide) (by decide) (qLV8 ha8) ((qLV8 (G := G) (es := es) (σ := qup (qfNf σ a) 131 a 102) (ad := (qup (qup (qup ad 10 (σ 0 3) s.heap.size) 11 (σ 0 3) H1.size) 2 3 q9)) ha8).trans (by rw [qup_s]; rfl)) hat hoq
    refine lv_aload_n hx hb dX7_lookAtAlert_61 rfl (lv_at hl 1 rfl) ?_
    refine lv_iconst (v := nI 0) hx hb dX7_lookAtAlert_62 (by decide) ?_
    refine q_putN (C := RX0) (T := TX0) (N := 9) (ty := .int) (v := .int (nI 0)) hx hb hts iRX0 tyX0 tyX0_ok nmX0 hown hC.1 (hW.to (qLV8 ha8)) (hW.in (qLV8 ha8)) hS rfl 7 (by decide) (va_Nw.use rfl (qf_RX7_220 hC)) rfl rfl (by decide +kernel) rfl rfl (Nat.le_of_ble_eq_true rfl) dX7_lookAtAlert_63 (fun H locs hat hsz hoq hS => ?_)
    have hW := hW.up 133 a 0 (by decide) (by decide) (qLV8 ha8) ((qLV8 (G := G) (es := es) (σ := qup (qup (qfNf σ a) 131 a 102) 133 a 0) (ad := (qup (qup (qup ad 10 (σ 0 3) s.heap.size) 11 (σ 0 3) H1.size) 2 3 q9)) ha8).trans (by rw [qup_s]; rfl)) hat hoq
    refine lv_aload_n hx hb dX7_lookAtAlert_66 rfl (lv_at hl 0 rfl) ?_
    refine lv_aload_n hx hb dX7_lookAtAlert_67 rfl (lv_at hl 1 rfl) ?_
    refine q_getN (C := RX0) (T := TX0) (N := 9) hx hb hts iRX0 hown hC.1 (hW.to (qLV8 ha8)) rfl 8 (by decide) (va_Nw.use rfl (qf_RX7_247 hC)) rfl (v := (if (qup (qup (qfNf σ a) 131 a 102) 133 a 0) 134 a = 0 then .null else .ref ((qup (qup (qup ad 10 (σ 0 3) s.heap.size) 11 (σ 0 3) H1.size) 2 3 q9) 10 ((qup (qup (qfNf σ a) 131 a 102) 133 a 0) 134 a - 1)))) rfl dX7_lookAtAlert_68 ?_
    refine q_t (w := .ref ((qup (qup (qup ad 10 (σ 0 3) s.heap.size) 11 (σ 0 3) H1.size) 2 3 q9) 10 (σ 0 3))) (by rw [show (qup (qup (qfNf σ a) 131 a 102) 133 a 0) 134 a = σ 0 3 + 1 from qfNf_134, if_neg (Nat.succ_ne_zero _), Nat.add_sub_cancel]) ?_
    have hF9 : qWF (qup (qup (qfNf σ a) 131 a 102) 133 a 0) := (hF8.up 131 a 102 (by decide) (by decide) (by decide) (fun z => absurd z (by decide)) (fun z => absurd z (by decide)) (fun _ => by decide) (fun z => absurd z (by decide))).up 133 a 0 (by decide) (by decide) (by decide) (fun z => absurd z (by decide)) (fun z => absurd z (by decide)) (fun z => absurd z (by decide)) (fun z => absurd z (by decide))
    have hm9 : ∀ i j, i ≤ j → j < (qup (qup (qfNf σ a) 131 a 102) 133 a 0) 0 0 → (qup (qup (qfNf σ a) 131 a 102) 133 a 0) 67 i ≤ (qup (qup (qfNf σ a) 131 a 102) 133 a 0) 67 j := fun i j g1 g2 => by have g2 : j < (qfNf σ a) 0 0 := g2; show (qfNf σ a) 67 i ≤ (qfNf σ a) 67 j; rw [hlo 0 0 (by omega) (by omega) (by omega)] at g2; rw [hlo 67 i (by omega) (by omega) (by omega), hlo 67 j (by omega) (by omega) (by omega)]; exact hm i j g1 g2
    have hg9 : ∀ l0, (qup (qup (qfNf σ a) 131 a 102) 133 a 0) 70 l0 ≤ 1000000 := fun l0 => by show (qfNf σ a) 70 l0 ≤ 1000000; rw [hlo 70 l0 (by omega) (by omega) (by omega)]; exact hg l0
    have hs9 : (qup (qup (qfNf σ a) 131 a 102) 133 a 0) 163 (σ 0 3) ≤ 1000000 := by show (qfNf σ a) 163 (σ 0 3) ≤ 1000000; rw [show (qfNf σ a) 163 (σ 0 3) = 0 from (qfNf_lo (by decide) (by omega)).trans (qad_in rfl (by decide))]; decide
    have hf9 : σ 0 3 < (qup (qup (qfNf σ a) 131 a 102) 133 a 0) 0 3 := by show σ 0 3 < (qfNf σ a) 0 3; rw [qfNf_03]; omega
    have hfa9 : (qup (qup (qfNf σ a) 131 a 102) 133 a 0) 160 (σ 0 3) = a := by show (qfNf σ a) 160 (σ 0 3) = a; exact (qfNf_lo (by decide) (by omega)).trans (qad_in rfl (by decide))
    refine q_wn (va_runV (As := [.ref ((qup (qup (qup ad 10 (σ 0 3) s.heap.size) 11 (σ 0 3) H1.size) 2 3 q9) 10 (σ 0 3))]) (rest := []) ⟨hx, hb, hml, hown, hts⟩ (m_standOnCounted l G es A (qup (qup (qfNf σ a) 131 a 102) 133 a 0) (qup (qup (qup ad 10 (σ 0 3) s.heap.size) 11 (σ 0 3) H1.size) 2 3 q9) hF9 (σ 0 3) a hf9 hfa9 hm9 hs9 hg9) (cwV 1 hts gX7_lookAtAlert_X7_standOnCounted rfl rfl rfl (by decide +kernel) ⟨Nat.le_of_ble_eq_true rfl, Nat.le_of_ble_eq_true rfl⟩) ⟨qW.blind, qrecv hC (hW.to qLV0) rfl, qW.pre hC hW hZ hS (fun _ h => h) (fun q h => hA q (Nat.le_trans hS.1 h))⟩ rfl rfl hl.1 rfl (lv_room (Nat.le_of_ble_eq_true rfl)) dX7_lookAtAlert_71 ⟨by show 0 + 1 + 1 + 1 + 0 ≤ 3; omega, by show 0 + 5 + 4 + ms + 0 ≤ 9 + ms; omega⟩) hS (fun _ h => h) (fun _ h => h) (fun H6 locs hW hz hk hS => ?_)
    refine lv_goto (tgt := 112) hx hb dX7_lookAtAlert_74 (by decide) ?_
    refine W.widen (k := 3) (n := 9 + ms) (by omega) (by omega) ?_
    exact W.vret hx hb hr (fun t ht _ => ⟨rfl, by rw [ht]; exact ⟨_, qAE.pend (J := 3), hW⟩, hS.F ht⟩) hS.2.2 dX7_lookAtAlert_112
