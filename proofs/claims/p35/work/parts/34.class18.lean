set_option maxHeartbeats 4000000 in
set_option maxRecDepth 100000 in
theorem m_archive (l : Launch) (G : QG) (es : Nat) (A : Nat → Prop) (σ ad : QSt) (hF : qWF σ) (i : Nat) (hi : i < σ 0 0) (hk9 : σ 69 i = 107) : Met l yX7_archive wsX7_archive ({ frames := 4, cells := 0, slots := 0, locals := 88 } : Room) (qW G es A σ ad [.ref (ad 0 0), .int (nI i)]) (qWV (some (.int (nI (qkept (qup σ 69 i 97) (σ 64 i))))) (qLW G es A (qup σ 69 i 97) ad) A) 0 0 A := by
  refine Met.ofW (cc := cX7_archive) (maxL := 3) (ret := (some .int)) (by decide) rfl ?_
  intro p e s m args below meth c s₁ B hml hv
  obtain ⟨rfl, hC, hW, hZ, hA⟩ := hv
  have hx := B.exec
  have hb := B.bytes
  have hr := B.returns
  have hts := atoms_spec (ws := wsX7_archive) B.pre
  have hown : s.vm.findClass RX7 = some m.cls := findClass_of_methodNamed B.named
  have hlocks := B.notSynchronized
  have hB := hF.1
  have hn := hF.n
  have hS : va_S A s.heap s.heap [] := va_S.rf
  have hl := lv_entry ([.ref (ad 0 0), .int (nI i)]) (n := 3) (Nat.le_of_ble_eq_true rfl)
  rw [lg_entry_eq]
  generalize (lg_sl ([.ref (ad 0 0), .int (nI i)]) ++ List.replicate (3 - (lg_sl ([.ref (ad 0 0), .int (nI i)])).length) Slot.unset).toArray = ls at hl ⊢
  have hl : lv_has ls 3 [(0, .ref (ad 0 0)), (1, .int (nI i))] := hl
  have iRX7 : ∀ w ∈ wsX70, w ∈ wsX7_archive := by decide +kernel
  have iRX3 : ∀ w ∈ wsX30, w ∈ wsX7_archive := by decide +kernel
  refine lv_aload_n hx hb dX7_archive_0 rfl (lv_at hl 0 rfl) ?_
  refine lv_iload_n hx hb dX7_archive_1 rfl (lv_at hl 1 rfl) ?_
  refine q_v (va_runV (As := [.int (nI i)]) (rest := []) ⟨hx, hb, hml, hown, hts⟩ (m_lineNumbered l G es A σ ad hF i hi) (cwV 1 hts gX7_archive_X7_lineNumbered rfl rfl rfl (by decide +kernel) ⟨Nat.le_of_ble_eq_true rfl, Nat.le_of_ble_eq_true rfl⟩) ⟨qR.blind, qrecv hC (hW.to qLV0) rfl, qR.pre hC hW⟩ rfl rfl hl.1 rfl (lv_room (Nat.le_of_ble_eq_true rfl)) dX7_archive_2 ⟨Nat.le_of_ble_eq_true rfl, Nat.le_of_ble_eq_true rfl⟩) hS (fun _ h => h.elim) (fun locs hS => ?_)
  refine lv_astore_n (lv' := [(2, .ref (ad 4 i)), (0, .ref (ad 0 0)), (1, .int (nI i))]) hx hb dX7_archive_5 rfl hl (by decide) rfl (fun ls hl => ?_)
  refine lv_aload_n hx hb dX7_archive_6 rfl (lv_at hl 0 rfl) ?_
  refine q_getN (C := RX3) (T := TX3) (N := 8) hx hb hts iRX3 hown hC.1 (hW.to (qLV4 hi)) rfl 6 (by decide) (va_Nw.use rfl (qf_RX7_103 hC)) rfl (v := .int (nI (σ 69 i))) rfl dX7_archive_7 ?_
  refine lv_bipush (v := nI 107) hx hb dX7_archive_10 (by decide) ?_
  refine q_eq (tgt := 25) hx hb (q31 (hB _ _)) (by decide) dX7_archive_12 (by decide) (fun c2 => ?_) (fun c2 => absurd hk9 c2)
  refine lv_aload_n hx hb dX7_archive_25 rfl (lv_at hl 0 rfl) ?_
  refine lv_bipush (v := nI 97) hx hb dX7_archive_26 (by decide) ?_
  refine q_putN (C := RX3) (T := TX3) (N := 8) (ty := .char) (v := .int (nI 97)) hx hb hts iRX3 tyX3 tyX3_ok nmX3 hown hC.1 (hW.to (qLV4 hi)) (hW.in (qLV4 hi)) hS rfl 6 (by decide) (va_Nw.use rfl (qf_RX7_103 hC)) rfl rfl (by decide +kernel) rfl rfl (Nat.le_of_ble_eq_true rfl) dX7_archive_28 (fun H locs hat hsz hoq hS => ?_)
  have hW := hW.up 69 i 97 (by decide) (by decide) (qLV4 hi) ((qLV4 (G := G) (es := es) (σ := qup σ 69 i 97) (ad := ad) hi).trans (by rw [qup_s]; rfl)) hat hoq
  refine lv_aload_n hx hb dX7_archive_31 rfl (lv_at hl 1 rfl) ?_
  refine lv_aload_n hx hb dX7_archive_32 rfl (lv_at hl 0 rfl) ?_
  refine q_getN (C := RX3) (T := TX3) (N := 8) hx hb hts iRX3 hown hC.1 (hW.to (qLV4 hi)) rfl 0 (by decide) (va_Nw.use rfl (qf_RX7_157 hC)) rfl (v := .int (nI (σ 64 i))) rfl dX7_archive_33 ?_
  have hF9 : qWF (qup σ 69 i 97) := hF.up 69 i 97 (by decide) (by decide) (by decide) (fun z => absurd z (by decide)) (fun _ => by decide) (fun z => absurd z (by decide)) (fun z => absurd z (by decide))
  refine q_v (va_runV (As := [.int (nI (σ 64 i))]) (rest := []) ⟨hx, hb, hml, hown, hts⟩ (m_keptBytes l G es A (qup σ 69 i 97) ad hF9 (σ 64 i) (hB _ _)) (cwV 1 hts gX7_archive_X7_keptBytes rfl rfl rfl (by decide +kernel) ⟨Nat.le_of_ble_eq_true rfl, Nat.le_of_ble_eq_true rfl⟩) ⟨qR.blind, qrecv hC (hW.to qLV0) rfl, qR.pre hC hW⟩ rfl rfl hl.1 rfl (lv_room (Nat.le_of_ble_eq_true rfl)) dX7_archive_36 ⟨Nat.le_of_ble_eq_true rfl, Nat.le_of_ble_eq_true rfl⟩) hS (fun _ h => h.elim) (fun locs hS => ?_)
  exact W.iret hx hb hr (fun t ht _ => ⟨rfl, by rw [ht]; exact hW, hS.F ht⟩) hS.2.2 dX7_archive_39
set_option maxHeartbeats 4000000 in
set_option maxRecDepth 100000 in
theorem m_release (l : Launch) (G : QG) (es : Nat) (A : Nat → Prop) (σ ad : QSt) (hF : qWF σ) (f : Nat) (hf : f < σ 0 3) (h0 : σ 162 f = 0) (h1 : σ 131 (σ 160 f) = 113 ∨ σ 134 (σ 160 f) ≠ f + 1) (hg1 : ∀ l0, l0 < σ 0 0 → σ (1000 + f) l0 = 1 → 1 ≤ σ 70 l0) (hF8 : qWF (qfGu (qup σ 162 f 1) f)) : Met l yX7_release wsX7_release ({ frames := 6, cells := 0, slots := 0, locals := 134 } : Room) (qW G es A σ ad [.ref (ad 0 0), .int (nI f)]) (qWV (some (.int (nI (qfAs (qfGu (qup σ 162 f 1) f) 4).2))) (qLW G es A (qfAs (qfGu (qup σ 162 f 1) f) 4).1 ad) A) 0 0 A := by
  refine Met.ofW (cc := cX7_release) (maxL := 3) (ret := (some .int)) (by decide) rfl ?_
  intro p e s m args below meth c s₁ B hml hv
  obtain ⟨rfl, hC, hW, hZ, hA⟩ := hv
  have hx := B.exec
  have hb := B.bytes
  have hr := B.returns
  have hts := atoms_spec (ws := wsX7_release) B.pre
  have hown : s.vm.findClass RX7 = some m.cls := findClass_of_methodNamed B.named
  have hlocks := B.notSynchronized
  have hB := hF.1
  have hn := hF.n
  have hS : va_S A s.heap s.heap [] := va_S.rf
  have hl := lv_entry ([.ref (ad 0 0), .int (nI f)]) (n := 3) (Nat.le_of_ble_eq_true rfl)
  rw [lg_entry_eq]
  generalize (lg_sl ([.ref (ad 0 0), .int (nI f)]) ++ List.replicate (3 - (lg_sl ([.ref (ad 0 0), .int (nI f)])).length) Slot.unset).toArray = ls at hl ⊢
  have hl : lv_has ls 3 [(0, .ref (ad 0 0)), (1, .int (nI f))] := hl
  have iRX7 : ∀ w ∈ wsX70, w ∈ wsX7_release := by decide +kernel
  have iRX2 : ∀ w ∈ wsX20, w ∈ wsX7_release := by decide +kernel
  have iRX0 : ∀ w ∈ wsX00, w ∈ wsX7_release := by decide +kernel
  refine lv_aload_n hx hb dX7_release_0 rfl (lv_at hl 0 rfl) ?_
  refine lv_iload_n hx hb dX7_release_1 rfl (lv_at hl 1 rfl) ?_
  refine q_v (va_runV (As := [.int (nI f)]) (rest := []) ⟨hx, hb, hml, hown, hts⟩ (m_firingNumbered l G es A σ ad hF f hf) (cwV 1 hts gX7_release_X7_firingNumbered rfl rfl rfl (by decide +kernel) ⟨Nat.le_of_ble_eq_true rfl, Nat.le_of_ble_eq_true rfl⟩) ⟨qR.blind, qrecv hC (hW.to qLV0) rfl, qR.pre hC hW⟩ rfl rfl hl.1 rfl (lv_room (Nat.le_of_ble_eq_true rfl)) dX7_release_2 ⟨Nat.le_of_ble_eq_true rfl, Nat.le_of_ble_eq_true rfl⟩) hS (fun _ h => h.elim) (fun locs hS => ?_)
  refine lv_astore_n (lv' := [(2, .ref (ad 10 f)), (0, .ref (ad 0 0)), (1, .int (nI f))]) hx hb dX7_release_5 rfl hl (by decide) rfl (fun ls hl => ?_)
  refine lv_aload_n hx hb dX7_release_6 rfl (lv_at hl 0 rfl) ?_
  refine q_getN (C := RX2) (T := TX2) (N := 5) hx hb hts iRX2 hown hC.1 (hW.to (qLV10 hf)) rfl 2 (by decide) (va_Nw.use rfl (qf_RX7_242 hC)) rfl (v := .int (nI (σ 162 f))) rfl dX7_release_7 ?_
  have hp9 := hF.alt hf
  refine q_eq0 (tgt := 23) hx hb (q31 (hB _ _)) dX7_release_10 (by decide) (fun c0 => ?_) (fun c0 => (by omega))
  refine lv_aload_n hx hb dX7_release_23 rfl (lv_at hl 0 rfl) ?_
  refine q_getN (C := RX2) (T := TX2) (N := 5) hx hb hts iRX2 hown hC.1 (hW.to (qLV10 hf)) rfl 0 (by decide) (va_Nw.use rfl (qf_RX7_227 hC)) rfl (v := .ref (ad 8 (σ 160 f))) rfl dX7_release_24 ?_
  refine q_getN (C := RX0) (T := TX0) (N := 9) hx hb hts iRX0 hown hC.1 (hW.to (qLV8 hp9)) rfl 5 (by decide) (va_Nw.use rfl (qf_RX7_212 hC)) rfl (v := .int (nI (σ 131 (σ 160 f)))) rfl dX7_release_27 ?_
  refine lv_bipush (v := nI 113) hx hb dX7_release_30 (by decide) ?_
  refine q_eq (tgt := 56) hx hb (q31 (hB _ _)) (by decide) dX7_release_32 (by decide) (fun c2 => ?_) (fun c2 => ?_)
  · skip
    refine lv_aload_n hx hb dX7_release_56 rfl (lv_at hl 0 rfl) ?_
    refine lv_iconst (v := nI 1) hx hb dX7_release_57 (by decide) ?_
    refine q_putN (C := RX2) (T := TX2) (N := 5) (ty := .boolean) (v := .int (nI 1)) hx hb hts iRX2 tyX2 tyX2_ok nmX2 hown hC.1 (hW.to (qLV10 hf)) (hW.in (qLV10 hf)) hS rfl 2 (by decide) (va_Nw.use rfl (qf_RX7_242 hC)) rfl rfl (by decide +kernel) rfl rfl (Nat.le_of_ble_eq_true rfl) dX7_release_58 (fun H locs hat hsz hoq hS => ?_)
    have hW := hW.up 162 f 1 (by decide) (by decide) (qLV10 hf) ((qLV10 (G := G) (es := es) (σ := qup σ 162 f 1) (ad := ad) hf).trans (by rw [qup_s]; rfl)) hat hoq
    refine lv_aload_n hx hb dX7_release_61 rfl (lv_at hl 1 rfl) ?_
    refine lv_aload_n hx hb dX7_release_62 rfl (lv_at hl 0 rfl) ?_
    have hF9 : qWF (qup σ 162 f 1) := hF.up 162 f 1 (by decide) (by decide) (by decide) (fun z => absurd z (by decide)) (fun z => absurd z (by decide)) (fun z => absurd z (by decide)) (fun z => absurd z (by decide))
    have hg9 : ∀ l0, l0 < qup σ 162 f 1 0 0 → qup σ 162 f 1 (1000 + f) l0 = 1 → 1 ≤ qup σ 162 f 1 70 l0 := fun l0 g1 g2 => by rw [qup_k (by omega)] at g1 g2; rw [qup_k (by omega)]; exact hg1 l0 g1 g2
    refine q_wn (va_runV (As := [.ref (ad 10 f)]) (rest := []) ⟨hx, hb, hml, hown, hts⟩ (m_giveUpLines l G es A (qup σ 162 f 1) ad hF9 f hf hg9) (cwV 1 hts gX7_release_X7_giveUpLines rfl rfl rfl (by decide +kernel) ⟨Nat.le_of_ble_eq_true rfl, Nat.le_of_ble_eq_true rfl⟩) ⟨qW.blind, qrecv hC (hW.to qLV0) rfl, qW.pre hC hW hZ hS (fun _ h => h) (fun q h => hA q (Nat.le_trans hS.1 h))⟩ rfl rfl hl.1 rfl (lv_room (Nat.le_of_ble_eq_true rfl)) dX7_release_63 ⟨Nat.le_of_ble_eq_true rfl, Nat.le_of_ble_eq_true rfl⟩) hS (fun _ h => h) (fun _ h => h) (fun H1 locs hW hz hk hS => ?_)
    refine lv_aload_n hx hb dX7_release_66 rfl (lv_at hl 1 rfl) ?_
    refine q_wv (va_runV (As := []) (rest := []) ⟨hx, hb, hml, hown, hts⟩ (m_lookAtAllSources l G es A (qfGu (qup σ 162 f 1) f) ad hF8) (cwV 0 hts gX7_release_X7_lookAtAllSources rfl rfl rfl (by decide +kernel) ⟨Nat.le_of_ble_eq_true rfl, Nat.le_of_ble_eq_true rfl⟩) ⟨qW.blind, qrecv hC (hW.to qLV0) rfl, qW.pre hC hW hZ hS (fun _ h => h) (fun q h => hA q (Nat.le_trans hS.1 h))⟩ rfl rfl hl.1 rfl (lv_room (Nat.le_of_ble_eq_true rfl)) dX7_release_67 ⟨Nat.le_of_ble_eq_true rfl, Nat.le_of_ble_eq_true rfl⟩) hS (fun _ h => h) (fun _ h => h) (fun H2 locs hW hz hk hS => ?_)
    exact W.iret hx hb hr (fun t ht _ => ⟨rfl, by rw [ht]; exact hW, hS.F ht⟩) hS.2.2 dX7_release_70
  · skip
    have h2 := h1.resolve_left c2
    refine lv_aload_n hx hb dX7_release_35 rfl (lv_at hl 0 rfl) ?_
    refine q_getN (C := RX2) (T := TX2) (N := 5) hx hb hts iRX2 hown hC.1 (hW.to (qLV10 hf)) rfl 0 (by decide) (va_Nw.use rfl (qf_RX7_227 hC)) rfl (v := .ref (ad 8 (σ 160 f))) rfl dX7_release_36 ?_
    refine q_getN (C := RX0) (T := TX0) (N := 9) hx hb hts iRX0 hown hC.1 (hW.to (qLV8 hp9)) rfl 8 (by decide) (va_Nw.use rfl (qf_RX7_247 hC)) rfl (v := (if σ 134 (σ 160 f) = 0 then .null else .ref (ad 10 (σ 134 (σ 160 f) - 1)))) rfl dX7_release_39 ?_
    by_cases c4 : σ 134 (σ 160 f) = 0
    · skip
      refine q_t (w := .null) (if_pos c4) ?_
      refine lv_aload_n hx hb dX7_release_42 rfl (lv_at hl 0 rfl) ?_
      refine lv_acmp_ne (rx := none) (ry := some (ad 10 f)) (tgt := 56) hx hb dX7_release_43 (by decide) (fun _ => ?_) (fun z => by cases z)
      refine lv_aload_n hx hb dX7_release_56 rfl (lv_at hl 0 rfl) ?_
      refine lv_iconst (v := nI 1) hx hb dX7_release_57 (by decide) ?_
      refine q_putN (C := RX2) (T := TX2) (N := 5) (ty := .boolean) (v := .int (nI 1)) hx hb hts iRX2 tyX2 tyX2_ok nmX2 hown hC.1 (hW.to (qLV10 hf)) (hW.in (qLV10 hf)) hS rfl 2 (by decide) (va_Nw.use rfl (qf_RX7_242 hC)) rfl rfl (by decide +kernel) rfl rfl (Nat.le_of_ble_eq_true rfl) dX7_release_58 (fun H locs hat hsz hoq hS => ?_)
      have hW := hW.up 162 f 1 (by decide) (by decide) (qLV10 hf) ((qLV10 (G := G) (es := es) (σ := qup σ 162 f 1) (ad := ad) hf).trans (by rw [qup_s]; rfl)) hat hoq
      refine lv_aload_n hx hb dX7_release_61 rfl (lv_at hl 1 rfl) ?_
      refine lv_aload_n hx hb dX7_release_62 rfl (lv_at hl 0 rfl) ?_
      have hF9 : qWF (qup σ 162 f 1) := hF.up 162 f 1 (by decide) (by decide) (by decide) (fun z => absurd z (by decide)) (fun z => absurd z (by decide)) (fun z => absurd z (by decide)) (fun z => absurd z (by decide))
      have hg9 : ∀ l0, l0 < qup σ 162 f 1 0 0 → qup σ 162 f 1 (1000 + f) l0 = 1 → 1 ≤ qup σ 162 f 1 70 l0 := fun l0 g1 g2 => by rw [qup_k (by omega)] at g1 g2; rw [qup_k (by omega)]; exact hg1 l0 g1 g2
      refine q_wn (va_runV (As := [.ref (ad 10 f)]) (rest := []) ⟨hx, hb, hml, hown, hts⟩ (m_giveUpLines l G es A (qup σ 162 f 1) ad hF9 f hf hg9) (cwV 1 hts gX7_release_X7_giveUpLines rfl rfl rfl (by decide +kernel) ⟨Nat.le_of_ble_eq_true rfl, Nat.le_of_ble_eq_true rfl⟩) ⟨qW.blind, qrecv hC (hW.to qLV0) rfl, qW.pre hC hW hZ hS (fun _ h => h) (fun q h => hA q (Nat.le_trans hS.1 h))⟩ rfl rfl hl.1 rfl (lv_room (Nat.le_of_ble_eq_true rfl)) dX7_release_63 ⟨Nat.le_of_ble_eq_true rfl, Nat.le_of_ble_eq_true rfl⟩) hS (fun _ h => h) (fun _ h => h) (fun H1 locs hW hz hk hS => ?_)
      refine lv_aload_n hx hb dX7_release_66 rfl (lv_at hl 1 rfl) ?_
      refine q_wv (va_runV (As := []) (rest := []) ⟨hx, hb, hml, hown, hts⟩ (m_lookAtAllSources l G es A (qfGu (qup σ 162 f 1) f) ad hF8) (cwV 0 hts gX7_release_X7_lookAtAllSources rfl rfl rfl (by decide +kernel) ⟨Nat.le_of_ble_eq_true rfl, Nat.le_of_ble_eq_true rfl⟩) ⟨qW.blind, qrecv hC (hW.to qLV0) rfl, qW.pre hC hW hZ hS (fun _ h => h) (fun q h => hA q (Nat.le_trans hS.1 h))⟩ rfl rfl hl.1 rfl (lv_room (Nat.le_of_ble_eq_true rfl)) dX7_release_67 ⟨Nat.le_of_ble_eq_true rfl, Nat.le_of_ble_eq_true rfl⟩) hS (fun _ h => h) (fun _ h => h) (fun H2 locs hW hz hk hS => ?_)
      exact W.iret hx hb hr (fun t ht _ => ⟨rfl, by rw [ht]; exact hW, hS.F ht⟩) hS.2.2 dX7_release_70
    · skip
      refine q_t (w := .ref (ad 10 (σ 134 (σ 160 f) - 1))) (if_neg c4) ?_
      refine lv_aload_n hx hb dX7_release_42 rfl (lv_at hl 0 rfl) ?_
      have h5 := hF.fir hp9
      have hne : ad 10 (σ 134 (σ 160 f) - 1) ≠ ad 10 f := fun z => h2 (by have := (hW.inj (qLV10 (by omega)) (qLV10 hf)).mp z; omega)
      refine q_acmp_ne (tgt := 56) hx hb dX7_release_43 (by decide) (fun c5 => ?_) (fun c5 => absurd c5 hne)
      · skip
        refine lv_aload_n hx hb dX7_release_56 rfl (lv_at hl 0 rfl) ?_
        refine lv_iconst (v := nI 1) hx hb dX7_release_57 (by decide) ?_
        refine q_putN (C := RX2) (T := TX2) (N := 5) (ty := .boolean) (v := .int (nI 1)) hx hb hts iRX2 tyX2 tyX2_ok nmX2 hown hC.1 (hW.to (qLV10 hf)) (hW.in (qLV10 hf)) hS rfl 2 (by decide) (va_Nw.use rfl (qf_RX7_242 hC)) rfl rfl (by decide +kernel) rfl rfl (Nat.le_of_ble_eq_true rfl) dX7_release_58 (fun H locs hat hsz hoq hS => ?_)
        have hW := hW.up 162 f 1 (by decide) (by decide) (qLV10 hf) ((qLV10 (G := G) (es := es) (σ := qup σ 162 f 1) (ad := ad) hf).trans (by rw [qup_s]; rfl)) hat hoq
        refine lv_aload_n hx hb dX7_release_61 rfl (lv_at hl 1 rfl) ?_
        refine lv_aload_n hx hb dX7_release_62 rfl (lv_at hl 0 rfl) ?_
        have hF9 : qWF (qup σ 162 f 1) := hF.up 162 f 1 (by decide) (by decide) (by decide) (fun z => absurd z (by decide)) (fun z => absurd z (by decide)) (fun z => absurd z (by decide)) (fun z => absurd z (by decide))
        have hg9 : ∀ l0, l0 < qup σ 162 f 1 0 0 → qup σ 162 f 1 (1000 + f) l0 = 1 → 1 ≤ qup σ 162 f 1 70 l0 := fun l0 g1 g2 => by rw [qup_k (by omega)] at g1 g2; rw [qup_k (by omega)]; exact hg1 l0 g1 g2
        refine q_wn (va_runV (As := [.ref (ad 10 f)]) (rest := []) ⟨hx, hb, hml, hown, hts⟩ (m_giveUpLines l G es A (qup σ 162 f 1) ad hF9 f hf hg9) (cwV 1 hts gX7_release_X7_giveUpLines rfl rfl rfl (by decide +kernel) ⟨Nat.le_of_ble_eq_true rfl, Nat.le_of_ble_eq_true rfl⟩) ⟨qW.blind, qrecv hC (hW.to qLV0) rfl, qW.pre hC hW hZ hS (fun _ h => h) (fun q h => hA q (Nat.le_trans hS.1 h))⟩ rfl rfl hl.1 rfl (lv_room (Nat.le_of_ble_eq_true rfl)) dX7_release_63 ⟨Nat.le_of_ble_eq_true rfl, Nat.le_of_ble_eq_true rfl⟩) hS (fun _ h => h) (fun _ h => h) (fun H1 locs hW hz hk hS => ?_)
        refine lv_aload_n hx hb dX7_release_66 rfl (lv_at hl 1 rfl) ?_
        refine q_wv (va_runV (As := []) (rest := []) ⟨hx, hb, hml, hown, hts⟩ (m_lookAtAllSources l G es A (qfGu (qup σ 162 f 1) f) ad hF8) (cwV 0 hts gX7_release_X7_lookAtAllSources rfl rfl rfl (by decide +kernel) ⟨Nat.le_of_ble_eq_true rfl, Nat.le_of_ble_eq_true rfl⟩) ⟨qW.blind, qrecv hC (hW.to qLV0) rfl, qW.pre hC hW hZ hS (fun _ h => h) (fun q h => hA q (Nat.le_trans hS.1 h))⟩ rfl rfl hl.1 rfl (lv_room (Nat.le_of_ble_eq_true rfl)) dX7_release_67 ⟨Nat.le_of_ble_eq_true rfl, Nat.le_of_ble_eq_true rfl⟩) hS (fun _ h => h) (fun _ h => h) (fun H2 locs hW hz hk hS => ?_)
        exact W.iret hx hb hr (fun t ht _ => ⟨rfl, by rw [ht]; exact hW, hS.F ht⟩) hS.2.2 dX7_release_70
