set_option maxHeartbeats 4000000 in
set_option maxRecDepth 100000 in
theorem p_setBudget (l : Launch) (G : QG) (es : Nat) (A : Nat → Prop) (σ ad : QSt) (hF : qWF σ) (s0 b0 : Nat) (hs0 : s0 < 4) (hb0 : b0 ≤ 9999) : Met l yL_plain wsL_plain ({ frames := 6, cells := 0, slots := 0, locals := 134 } : Room) (qW G es A σ ad [.ref (ad 0 0), .int (nI 0), .int (nI s0), .int (nI b0)]) (qWV (some (.int (nI (qfLs (qup σ 48 s0 b0) s0 200).2))) (qLW G es A (qfLs (qup σ 48 s0 b0) s0 200).1 ad) A) 0 0 A := by
  refine Met.ofW (cc := cL_plain) (maxL := 4) (ret := (some .int)) (by decide) rfl ?_
  intro p e s m args below meth c s₁ B hml hv
  obtain ⟨rfl, hC, hW, hZ, hA⟩ := hv
  have hx := B.exec
  have hb := B.bytes
  have hr := B.returns
  have hts := atoms_spec (ws := wsL_plain) B.pre
  have hown : s.vm.findClass RL = some m.cls := findClass_of_methodNamed B.named
  have hlocks := B.notSynchronized
  have hS : va_S A s.heap s.heap [] := va_S.rf
  have hl := lv_entry ([.ref (ad 0 0), .int (nI 0), .int (nI s0), .int (nI b0)]) (n := 4) (Nat.le_of_ble_eq_true rfl)
  rw [lg_entry_eq]
  generalize (lg_sl ([.ref (ad 0 0), .int (nI 0), .int (nI s0), .int (nI b0)]) ++ List.replicate (4 - (lg_sl ([.ref (ad 0 0), .int (nI 0), .int (nI s0), .int (nI b0)])).length) Slot.unset).toArray = ls at hl ⊢
  have hl : lv_has ls 4 [(0, .ref (ad 0 0)), (1, .int (nI 0)), (2, .int (nI s0)), (3, .int (nI b0))] := hl
  refine lv_iload_n hx hb dL_plain_0 rfl (lv_at hl 1 rfl) ?_
  refine lv_tableIn (off := 31) (tgt := 32) hx hb dL_plain_1 (by decide +kernel) (by decide +kernel) (by decide +kernel) (by decide) ?_
  refine lv_aload_n hx hb dL_plain_32 rfl (lv_at hl 0 rfl) ?_
  refine lv_iload_n hx hb dL_plain_33 rfl (lv_at hl 2 rfl) ?_
  refine lv_iload_n hx hb dL_plain_34 rfl (lv_at hl 3 rfl) ?_
  refine q_wv (va_runV (As := [.int (nI s0), .int (nI b0)]) (rest := []) ⟨hx, hb, hml, hown, hts⟩ (m_setBudget l G es A σ ad hF s0 b0 hs0 hb0) (cwV 2 hts gL_plain_X7_setBudget rfl rfl rfl (by decide +kernel) ⟨Nat.le_of_ble_eq_true rfl, Nat.le_of_ble_eq_true rfl⟩) ⟨qW.blind, qrecv hC (hW.to qLV0) rfl, qW.pre hC hW hZ (va_S.rf (A := A)) (fun _ h => h) hA⟩ rfl rfl hl.1 rfl (lv_room (Nat.le_of_ble_eq_true rfl)) dL_plain_35 ⟨Nat.le_of_ble_eq_true rfl, Nat.le_of_ble_eq_true rfl⟩) hS (fun _ h => h) (fun _ h => h) (fun H1 locs hP9 hz hk hS => ?_)
  exact W.iret hx hb hr (fun t ht _ => ⟨rfl, by rw [ht]; exact hP9, hS.F ht⟩) hS.2.2 dL_plain_38
set_option maxHeartbeats 4000000 in
set_option maxRecDepth 100000 in
theorem d_setBudget (l : Launch) (G : QG) (es : Nat) (A : Nat → Prop) (σ ad : QSt) (hF : qWF σ) (s0 b0 : Nat) (hs0 : s0 < 4) (hb0 : b0 ≤ 9999) : Met l yL_deed wsL_deed ({ frames := 7, cells := 0, slots := 0, locals := 157 } : Room) (qW G es A σ ad [.ref (ad 0 0), .int (nI 0), .int (nI s0), .int (nI b0)]) (qWV (some (.int (nI (qfLs (qup σ 48 s0 b0) s0 200).2))) (qLW G es A (qfLs (qup σ 48 s0 b0) s0 200).1 ad) A) 0 0 A := by
  refine q_ofWH (cc := cL_deed) (maxL := 5) (ret := (some .int)) (hh := [(0, 7, 8, 21), (0, 7, 14, 23), (0, 7, 20, 50), (0, 7, 26, 52)]) (by decide) rfl ?_
  intro p e s m args below meth c s₁ B hml htab hv
  obtain ⟨rfl, hC, hW, hZ, hA⟩ := hv
  have hx := B.exec
  have hb := B.bytes
  have hr := B.returns
  have hts := atoms_spec (ws := wsL_deed) B.pre
  have hown : s.vm.findClass RL = some m.cls := findClass_of_methodNamed B.named
  have hlocks := B.notSynchronized
  have hS : va_S A s.heap s.heap [] := va_S.rf
  have hl := lv_entry ([.ref (ad 0 0), .int (nI 0), .int (nI s0), .int (nI b0)]) (n := 5) (Nat.le_of_ble_eq_true rfl)
  rw [lg_entry_eq]
  generalize (lg_sl ([.ref (ad 0 0), .int (nI 0), .int (nI s0), .int (nI b0)]) ++ List.replicate (5 - (lg_sl ([.ref (ad 0 0), .int (nI 0), .int (nI s0), .int (nI b0)])).length) Slot.unset).toArray = ls at hl ⊢
  have hl : lv_has ls 5 [(0, .ref (ad 0 0)), (1, .int (nI 0)), (2, .int (nI s0)), (3, .int (nI b0))] := hl
  refine lv_aload_n hx hb dL_deed_0 rfl (lv_at hl 0 rfl) ?_
  refine lv_iload_n hx hb dL_deed_1 rfl (lv_at hl 1 rfl) ?_
  refine lv_iload_n hx hb dL_deed_2 rfl (lv_at hl 2 rfl) ?_
  refine lv_iload_n hx hb dL_deed_3 rfl (lv_at hl 3 rfl) ?_
  refine q_wv (va_runS (As := [.ref (ad 0 0), .int (nI 0), .int (nI s0), .int (nI b0)]) (rest := []) ⟨hx, hb, hml, hown, hts⟩ (p_setBudget l G es A σ ad hF s0 b0 hs0 hb0) (va_cwS 4 hts gL_deed_L_plain rfl rfl rfl (by decide +kernel) ⟨Nat.le_of_ble_eq_true rfl, Nat.le_of_ble_eq_true rfl⟩) ⟨qW.blind, qW.pre hC hW hZ (va_S.rf (A := A)) (fun _ h => h) hA⟩ rfl rfl hl.1 rfl (lv_room (Nat.le_of_ble_eq_true rfl)) dL_deed_4 ⟨Nat.le_of_ble_eq_true rfl, Nat.le_of_ble_eq_true rfl⟩) hS (fun _ h => h) (fun _ h => h) (fun H1 locs hP9 hz hk hS => ?_)
  exact W.iret hx hb hr (fun t ht _ => ⟨rfl, by rw [ht]; exact hP9, hS.F ht⟩) hS.2.2 dL_deed_7
set_option maxHeartbeats 4000000 in
set_option maxRecDepth 100000 in
theorem p_archive (l : Launch) (G : QG) (es : Nat) (A : Nat → Prop) (σ ad : QSt) (hF : qWF σ) (i : Nat) (hi : i < σ 0 0) (hk9 : σ 69 i = 107) (bq : Int32) : Met l yL_plain wsL_plain ({ frames := 5, cells := 0, slots := 0, locals := 110 } : Room) (qW G es A σ ad [.ref (ad 0 0), .int (nI 1), .int (nI i), .int (bq)]) (qWV (some (.int (nI (qkept (qup σ 69 i 97) (σ 64 i))))) (qLW G es A (qup σ 69 i 97) ad) A) 0 0 A := by
  refine Met.ofW (cc := cL_plain) (maxL := 4) (ret := (some .int)) (by decide) rfl ?_
  intro p e s m args below meth c s₁ B hml hv
  obtain ⟨rfl, hC, hW, hZ, hA⟩ := hv
  have hx := B.exec
  have hb := B.bytes
  have hr := B.returns
  have hts := atoms_spec (ws := wsL_plain) B.pre
  have hown : s.vm.findClass RL = some m.cls := findClass_of_methodNamed B.named
  have hlocks := B.notSynchronized
  have hS : va_S A s.heap s.heap [] := va_S.rf
  have hl := lv_entry ([.ref (ad 0 0), .int (nI 1), .int (nI i), .int (bq)]) (n := 4) (Nat.le_of_ble_eq_true rfl)
  rw [lg_entry_eq]
  generalize (lg_sl ([.ref (ad 0 0), .int (nI 1), .int (nI i), .int (bq)]) ++ List.replicate (4 - (lg_sl ([.ref (ad 0 0), .int (nI 1), .int (nI i), .int (bq)])).length) Slot.unset).toArray = ls at hl ⊢
  have hl : lv_has ls 4 [(0, .ref (ad 0 0)), (1, .int (nI 1)), (2, .int (nI i)), (3, .int (bq))] := hl
  refine lv_iload_n hx hb dL_plain_0 rfl (lv_at hl 1 rfl) ?_
  refine lv_tableIn (off := 38) (tgt := 39) hx hb dL_plain_1 (by decide +kernel) (by decide +kernel) (by decide +kernel) (by decide) ?_
  refine lv_aload_n hx hb dL_plain_39 rfl (lv_at hl 0 rfl) ?_
  refine lv_iload_n hx hb dL_plain_40 rfl (lv_at hl 2 rfl) ?_
  refine q_wv (va_runV (As := [.int (nI i)]) (rest := []) ⟨hx, hb, hml, hown, hts⟩ (m_archive l G es A σ ad hF i hi hk9) (cwV 1 hts gL_plain_X7_archive rfl rfl rfl (by decide +kernel) ⟨Nat.le_of_ble_eq_true rfl, Nat.le_of_ble_eq_true rfl⟩) ⟨qW.blind, qrecv hC (hW.to qLV0) rfl, qW.pre hC hW hZ (va_S.rf (A := A)) (fun _ h => h) hA⟩ rfl rfl hl.1 rfl (lv_room (Nat.le_of_ble_eq_true rfl)) dL_plain_41 ⟨Nat.le_of_ble_eq_true rfl, Nat.le_of_ble_eq_true rfl⟩) hS (fun _ h => h) (fun _ h => h) (fun H1 locs hP9 hz hk hS => ?_)
  exact W.iret hx hb hr (fun t ht _ => ⟨rfl, by rw [ht]; exact hP9, hS.F ht⟩) hS.2.2 dL_plain_44
set_option maxHeartbeats 4000000 in
set_option maxRecDepth 100000 in
theorem d_archive (l : Launch) (G : QG) (es : Nat) (A : Nat → Prop) (σ ad : QSt) (hF : qWF σ) (i : Nat) (hi : i < σ 0 0) (hk9 : σ 69 i = 107) (bq : Int32) : Met l yL_deed wsL_deed ({ frames := 6, cells := 0, slots := 0, locals := 133 } : Room) (qW G es A σ ad [.ref (ad 0 0), .int (nI 1), .int (nI i), .int (bq)]) (qWV (some (.int (nI (qkept (qup σ 69 i 97) (σ 64 i))))) (qLW G es A (qup σ 69 i 97) ad) A) 0 0 A := by
  refine q_ofWH (cc := cL_deed) (maxL := 5) (ret := (some .int)) (hh := [(0, 7, 8, 21), (0, 7, 14, 23), (0, 7, 20, 50), (0, 7, 26, 52)]) (by decide) rfl ?_
  intro p e s m args below meth c s₁ B hml htab hv
  obtain ⟨rfl, hC, hW, hZ, hA⟩ := hv
  have hx := B.exec
  have hb := B.bytes
  have hr := B.returns
  have hts := atoms_spec (ws := wsL_deed) B.pre
  have hown : s.vm.findClass RL = some m.cls := findClass_of_methodNamed B.named
  have hlocks := B.notSynchronized
  have hS : va_S A s.heap s.heap [] := va_S.rf
  have hl := lv_entry ([.ref (ad 0 0), .int (nI 1), .int (nI i), .int (bq)]) (n := 5) (Nat.le_of_ble_eq_true rfl)
  rw [lg_entry_eq]
  generalize (lg_sl ([.ref (ad 0 0), .int (nI 1), .int (nI i), .int (bq)]) ++ List.replicate (5 - (lg_sl ([.ref (ad 0 0), .int (nI 1), .int (nI i), .int (bq)])).length) Slot.unset).toArray = ls at hl ⊢
  have hl : lv_has ls 5 [(0, .ref (ad 0 0)), (1, .int (nI 1)), (2, .int (nI i)), (3, .int (bq))] := hl
  refine lv_aload_n hx hb dL_deed_0 rfl (lv_at hl 0 rfl) ?_
  refine lv_iload_n hx hb dL_deed_1 rfl (lv_at hl 1 rfl) ?_
  refine lv_iload_n hx hb dL_deed_2 rfl (lv_at hl 2 rfl) ?_
  refine lv_iload_n hx hb dL_deed_3 rfl (lv_at hl 3 rfl) ?_
  refine q_wv (va_runS (As := [.ref (ad 0 0), .int (nI 1), .int (nI i), .int (bq)]) (rest := []) ⟨hx, hb, hml, hown, hts⟩ (p_archive l G es A σ ad hF i hi hk9 bq) (va_cwS 4 hts gL_deed_L_plain rfl rfl rfl (by decide +kernel) ⟨Nat.le_of_ble_eq_true rfl, Nat.le_of_ble_eq_true rfl⟩) ⟨qW.blind, qW.pre hC hW hZ (va_S.rf (A := A)) (fun _ h => h) hA⟩ rfl rfl hl.1 rfl (lv_room (Nat.le_of_ble_eq_true rfl)) dL_deed_4 ⟨Nat.le_of_ble_eq_true rfl, Nat.le_of_ble_eq_true rfl⟩) hS (fun _ h => h) (fun _ h => h) (fun H1 locs hP9 hz hk hS => ?_)
  exact W.iret hx hb hr (fun t ht _ => ⟨rfl, by rw [ht]; exact hP9, hS.F ht⟩) hS.2.2 dL_deed_7
set_option maxHeartbeats 4000000 in
set_option maxRecDepth 100000 in
theorem p_release (l : Launch) (G : QG) (es : Nat) (A : Nat → Prop) (σ ad : QSt) (hF : qWF σ) (f : Nat) (hf : f < σ 0 3) (h0 : σ 162 f = 0) (h1 : σ 131 (σ 160 f) = 113 ∨ σ 134 (σ 160 f) ≠ f + 1) (hg1 : ∀ l0, l0 < σ 0 0 → σ (1000 + f) l0 = 1 → 1 ≤ σ 70 l0) (hF8 : qWF (qfGu (qup σ 162 f 1) f)) (bq : Int32) : Met l yL_plain wsL_plain ({ frames := 7, cells := 0, slots := 0, locals := 156 } : Room) (qW G es A σ ad [.ref (ad 0 0), .int (nI 3), .int (nI f), .int (bq)]) (qWV (some (.int (nI (qfAs (qfGu (qup σ 162 f 1) f) 4).2))) (qLW G es A (qfAs (qfGu (qup σ 162 f 1) f) 4).1 ad) A) 0 0 A := by
  refine Met.ofW (cc := cL_plain) (maxL := 4) (ret := (some .int)) (by decide) rfl ?_
  intro p e s m args below meth c s₁ B hml hv
  obtain ⟨rfl, hC, hW, hZ, hA⟩ := hv
  have hx := B.exec
  have hb := B.bytes
  have hr := B.returns
  have hts := atoms_spec (ws := wsL_plain) B.pre
  have hown : s.vm.findClass RL = some m.cls := findClass_of_methodNamed B.named
  have hlocks := B.notSynchronized
  have hS : va_S A s.heap s.heap [] := va_S.rf
  have hl := lv_entry ([.ref (ad 0 0), .int (nI 3), .int (nI f), .int (bq)]) (n := 4) (Nat.le_of_ble_eq_true rfl)
  rw [lg_entry_eq]
  generalize (lg_sl ([.ref (ad 0 0), .int (nI 3), .int (nI f), .int (bq)]) ++ List.replicate (4 - (lg_sl ([.ref (ad 0 0), .int (nI 3), .int (nI f), .int (bq)])).length) Slot.unset).toArray = ls at hl ⊢
  have hl : lv_has ls 4 [(0, .ref (ad 0 0)), (1, .int (nI 3)), (2, .int (nI f)), (3, .int (bq))] := hl
  refine lv_iload_n hx hb dL_plain_0 rfl (lv_at hl 1 rfl) ?_
  refine lv_tableIn (off := 51) (tgt := 52) hx hb dL_plain_1 (by decide +kernel) (by decide +kernel) (by decide +kernel) (by decide) ?_
  refine lv_aload_n hx hb dL_plain_52 rfl (lv_at hl 0 rfl) ?_
  refine lv_iload_n hx hb dL_plain_53 rfl (lv_at hl 2 rfl) ?_
  refine q_wv (va_runV (As := [.int (nI f)]) (rest := []) ⟨hx, hb, hml, hown, hts⟩ (m_release l G es A σ ad hF f hf h0 h1 hg1 hF8) (cwV 1 hts gL_plain_X7_release rfl rfl rfl (by decide +kernel) ⟨Nat.le_of_ble_eq_true rfl, Nat.le_of_ble_eq_true rfl⟩) ⟨qW.blind, qrecv hC (hW.to qLV0) rfl, qW.pre hC hW hZ (va_S.rf (A := A)) (fun _ h => h) hA⟩ rfl rfl hl.1 rfl (lv_room (Nat.le_of_ble_eq_true rfl)) dL_plain_54 ⟨Nat.le_of_ble_eq_true rfl, Nat.le_of_ble_eq_true rfl⟩) hS (fun _ h => h) (fun _ h => h) (fun H1 locs hP9 hz hk hS => ?_)
  exact W.iret hx hb hr (fun t ht _ => ⟨rfl, by rw [ht]; exact hP9, hS.F ht⟩) hS.2.2 dL_plain_57
set_option maxHeartbeats 4000000 in
set_option maxRecDepth 100000 in
theorem d_release (l : Launch) (G : QG) (es : Nat) (A : Nat → Prop) (σ ad : QSt) (hF : qWF σ) (f : Nat) (hf : f < σ 0 3) (h0 : σ 162 f = 0) (h1 : σ 131 (σ 160 f) = 113 ∨ σ 134 (σ 160 f) ≠ f + 1) (hg1 : ∀ l0, l0 < σ 0 0 → σ (1000 + f) l0 = 1 → 1 ≤ σ 70 l0) (hF8 : qWF (qfGu (qup σ 162 f 1) f)) (bq : Int32) : Met l yL_deed wsL_deed ({ frames := 8, cells := 0, slots := 0, locals := 179 } : Room) (qW G es A σ ad [.ref (ad 0 0), .int (nI 3), .int (nI f), .int (bq)]) (qWV (some (.int (nI (qfAs (qfGu (qup σ 162 f 1) f) 4).2))) (qLW G es A (qfAs (qfGu (qup σ 162 f 1) f) 4).1 ad) A) 0 0 A := by
  refine q_ofWH (cc := cL_deed) (maxL := 5) (ret := (some .int)) (hh := [(0, 7, 8, 21), (0, 7, 14, 23), (0, 7, 20, 50), (0, 7, 26, 52)]) (by decide) rfl ?_
  intro p e s m args below meth c s₁ B hml htab hv
  obtain ⟨rfl, hC, hW, hZ, hA⟩ := hv
  have hx := B.exec
  have hb := B.bytes
  have hr := B.returns
  have hts := atoms_spec (ws := wsL_deed) B.pre
  have hown : s.vm.findClass RL = some m.cls := findClass_of_methodNamed B.named
  have hlocks := B.notSynchronized
  have hS : va_S A s.heap s.heap [] := va_S.rf
  have hl := lv_entry ([.ref (ad 0 0), .int (nI 3), .int (nI f), .int (bq)]) (n := 5) (Nat.le_of_ble_eq_true rfl)
  rw [lg_entry_eq]
  generalize (lg_sl ([.ref (ad 0 0), .int (nI 3), .int (nI f), .int (bq)]) ++ List.replicate (5 - (lg_sl ([.ref (ad 0 0), .int (nI 3), .int (nI f), .int (bq)])).length) Slot.unset).toArray = ls at hl ⊢
  have hl : lv_has ls 5 [(0, .ref (ad 0 0)), (1, .int (nI 3)), (2, .int (nI f)), (3, .int (bq))] := hl
  refine lv_aload_n hx hb dL_deed_0 rfl (lv_at hl 0 rfl) ?_
  refine lv_iload_n hx hb dL_deed_1 rfl (lv_at hl 1 rfl) ?_
  refine lv_iload_n hx hb dL_deed_2 rfl (lv_at hl 2 rfl) ?_
  refine lv_iload_n hx hb dL_deed_3 rfl (lv_at hl 3 rfl) ?_
  refine q_wv (va_runS (As := [.ref (ad 0 0), .int (nI 3), .int (nI f), .int (bq)]) (rest := []) ⟨hx, hb, hml, hown, hts⟩ (p_release l G es A σ ad hF f hf h0 h1 hg1 hF8 bq) (va_cwS 4 hts gL_deed_L_plain rfl rfl rfl (by decide +kernel) ⟨Nat.le_of_ble_eq_true rfl, Nat.le_of_ble_eq_true rfl⟩) ⟨qW.blind, qW.pre hC hW hZ (va_S.rf (A := A)) (fun _ h => h) hA⟩ rfl rfl hl.1 rfl (lv_room (Nat.le_of_ble_eq_true rfl)) dL_deed_4 ⟨Nat.le_of_ble_eq_true rfl, Nat.le_of_ble_eq_true rfl⟩) hS (fun _ h => h) (fun _ h => h) (fun H1 locs hP9 hz hk hS => ?_)
  exact W.iret hx hb hr (fun t ht _ => ⟨rfl, by rw [ht]; exact hP9, hS.F ht⟩) hS.2.2 dL_deed_7
set_option maxHeartbeats 4000000 in
set_option maxRecDepth 100000 in
theorem p_pass (l : Launch) (G : QG) (es : Nat) (A : Nat → Prop) (σ ad : QSt) (hF : qWF σ) (n0 : Nat) (hn0 : 1 ≤ n0 ∧ n0 ≤ 50) (hnow : σ 1 0 + n0 ≤ 5000) (hT : ∀ i, i < n0 → qTick (qfPs σ i).1) (bq : Int32) : Met l yL_plain wsL_plain ({ frames := 10, cells := (3 * ((qfPs σ n0).1 0 3 - σ 0 3)), slots := (10 * ((qfPs σ n0).1 0 3 - σ 0 3) + 3 * ((qfPs σ n0).1 32 3 - σ 32 3)), locals := 237 } : Room) (qW G es A σ ad [.ref (ad 0 0), .int (nI 4), .int (nI n0), .int (bq)]) (qWV (some (.int (nI (qfPs σ n0).2))) (fun H1 => ∃ ad', qAE σ ad ad' ∧ qLW G es A (qfPs σ n0).1 ad' H1) A) (3 * ((qfPs σ n0).1 0 3 - σ 0 3)) (10 * ((qfPs σ n0).1 0 3 - σ 0 3) + 3 * ((qfPs σ n0).1 32 3 - σ 32 3)) A := by
  refine Met.ofW (cc := cL_plain) (maxL := 4) (ret := (some .int)) (by decide) rfl ?_
  intro p e s m args below meth c s₁ B hml hv
  obtain ⟨rfl, hC, hW, hZ, hA⟩ := hv
  have hx := B.exec
  have hb := B.bytes
  have hr := B.returns
  have hts := atoms_spec (ws := wsL_plain) B.pre
  have hown : s.vm.findClass RL = some m.cls := findClass_of_methodNamed B.named
  have hlocks := B.notSynchronized
  have hS : va_S A s.heap s.heap [] := va_S.rf
  have hl := lv_entry ([.ref (ad 0 0), .int (nI 4), .int (nI n0), .int (bq)]) (n := 4) (Nat.le_of_ble_eq_true rfl)
  rw [lg_entry_eq]
  generalize (lg_sl ([.ref (ad 0 0), .int (nI 4), .int (nI n0), .int (bq)]) ++ List.replicate (4 - (lg_sl ([.ref (ad 0 0), .int (nI 4), .int (nI n0), .int (bq)])).length) Slot.unset).toArray = ls at hl ⊢
  have hl : lv_has ls 4 [(0, .ref (ad 0 0)), (1, .int (nI 4)), (2, .int (nI n0)), (3, .int (bq))] := hl
  refine lv_iload_n hx hb dL_plain_0 rfl (lv_at hl 1 rfl) ?_
  refine lv_tableOut (tgt := 58) hx hb dL_plain_1 (by decide +kernel) (by decide) ?_
  refine lv_aload_n hx hb dL_plain_58 rfl (lv_at hl 0 rfl) ?_
  refine lv_iload_n hx hb dL_plain_59 rfl (lv_at hl 2 rfl) ?_
  refine q_wv (va_runV (As := [.int (nI n0)]) (rest := []) ⟨hx, hb, hml, hown, hts⟩ (m_pass l G es A σ ad hF n0 hn0 hnow hT) (cwV 1 hts gL_plain_X7_pass rfl rfl rfl (by decide +kernel) ⟨Nat.le_of_ble_eq_true rfl, Nat.le_of_ble_eq_true rfl⟩) ⟨qW.blind, qrecv hC (hW.to qLV0) rfl, qW.pre hC hW hZ (va_S.rf (A := A)) (fun _ h => h) hA⟩ rfl rfl hl.1 rfl (lv_room (Nat.le_of_ble_eq_true rfl)) dL_plain_60 ⟨Nat.le_of_eq (Nat.zero_add _), Nat.le_of_eq (Nat.zero_add _)⟩) hS (fun _ h => h) (fun _ h => h) (fun H1 locs hP9 hz hk hS => ?_)
  refine W.widen (k := (3 * ((qfPs σ n0).1 0 3 - σ 0 3))) (n := (10 * ((qfPs σ n0).1 0 3 - σ 0 3) + 3 * ((qfPs σ n0).1 32 3 - σ 32 3))) (Nat.le_of_eq (Nat.zero_add _)) (Nat.le_of_eq (Nat.zero_add _)) ?_
  exact W.iret hx hb hr (fun t ht _ => ⟨rfl, by rw [ht]; exact hP9, hS.F ht⟩) hS.2.2 dL_plain_63
set_option maxHeartbeats 4000000 in
set_option maxRecDepth 100000 in
theorem d_pass (l : Launch) (G : QG) (es : Nat) (A : Nat → Prop) (σ ad : QSt) (hF : qWF σ) (n0 : Nat) (hn0 : 1 ≤ n0 ∧ n0 ≤ 50) (hnow : σ 1 0 + n0 ≤ 5000) (hT : ∀ i, i < n0 → qTick (qfPs σ i).1) (bq : Int32) : Met l yL_deed wsL_deed ({ frames := 11, cells := (3 * ((qfPs σ n0).1 0 3 - σ 0 3)), slots := (10 * ((qfPs σ n0).1 0 3 - σ 0 3) + 3 * ((qfPs σ n0).1 32 3 - σ 32 3)), locals := 260 } : Room) (qW G es A σ ad [.ref (ad 0 0), .int (nI 4), .int (nI n0), .int (bq)]) (qWV (some (.int (nI (qfPs σ n0).2))) (fun H1 => ∃ ad', qAE σ ad ad' ∧ qLW G es A (qfPs σ n0).1 ad' H1) A) (3 * ((qfPs σ n0).1 0 3 - σ 0 3)) (10 * ((qfPs σ n0).1 0 3 - σ 0 3) + 3 * ((qfPs σ n0).1 32 3 - σ 32 3)) A := by
  refine q_ofWH (cc := cL_deed) (maxL := 5) (ret := (some .int)) (hh := [(0, 7, 8, 21), (0, 7, 14, 23), (0, 7, 20, 50), (0, 7, 26, 52)]) (by decide) rfl ?_
  intro p e s m args below meth c s₁ B hml htab hv
  obtain ⟨rfl, hC, hW, hZ, hA⟩ := hv
  have hx := B.exec
  have hb := B.bytes
  have hr := B.returns
  have hts := atoms_spec (ws := wsL_deed) B.pre
  have hown : s.vm.findClass RL = some m.cls := findClass_of_methodNamed B.named
  have hlocks := B.notSynchronized
  have hS : va_S A s.heap s.heap [] := va_S.rf
  have hl := lv_entry ([.ref (ad 0 0), .int (nI 4), .int (nI n0), .int (bq)]) (n := 5) (Nat.le_of_ble_eq_true rfl)
  rw [lg_entry_eq]
  generalize (lg_sl ([.ref (ad 0 0), .int (nI 4), .int (nI n0), .int (bq)]) ++ List.replicate (5 - (lg_sl ([.ref (ad 0 0), .int (nI 4), .int (nI n0), .int (bq)])).length) Slot.unset).toArray = ls at hl ⊢
  have hl : lv_has ls 5 [(0, .ref (ad 0 0)), (1, .int (nI 4)), (2, .int (nI n0)), (3, .int (bq))] := hl
  refine lv_aload_n hx hb dL_deed_0 rfl (lv_at hl 0 rfl) ?_
  refine lv_iload_n hx hb dL_deed_1 rfl (lv_at hl 1 rfl) ?_
  refine lv_iload_n hx hb dL_deed_2 rfl (lv_at hl 2 rfl) ?_
  refine lv_iload_n hx hb dL_deed_3 rfl (lv_at hl 3 rfl) ?_
  refine q_wv (va_runS (As := [.ref (ad 0 0), .int (nI 4), .int (nI n0), .int (bq)]) (rest := []) ⟨hx, hb, hml, hown, hts⟩ (p_pass l G es A σ ad hF n0 hn0 hnow hT bq) (va_cwS 4 hts gL_deed_L_plain rfl rfl rfl (by decide +kernel) ⟨Nat.le_of_ble_eq_true rfl, Nat.le_of_ble_eq_true rfl⟩) ⟨qW.blind, qW.pre hC hW hZ (va_S.rf (A := A)) (fun _ h => h) hA⟩ rfl rfl hl.1 rfl (lv_room (Nat.le_of_ble_eq_true rfl)) dL_deed_4 ⟨Nat.le_of_eq (Nat.zero_add _), Nat.le_of_eq (Nat.zero_add _)⟩) hS (fun _ h => h) (fun _ h => h) (fun H1 locs hP9 hz hk hS => ?_)
  refine W.widen (k := (3 * ((qfPs σ n0).1 0 3 - σ 0 3))) (n := (10 * ((qfPs σ n0).1 0 3 - σ 0 3) + 3 * ((qfPs σ n0).1 32 3 - σ 32 3))) (Nat.le_of_eq (Nat.zero_add _)) (Nat.le_of_eq (Nat.zero_add _)) ?_
  exact W.iret hx hb hr (fun t ht _ => ⟨rfl, by rw [ht]; exact hP9, hS.F ht⟩) hS.2.2 dL_deed_7
set_option maxHeartbeats 4000000 in
set_option maxRecDepth 100000 in
theorem px_archive2 (l : Launch) (hst : l.stackTraces = false) (G : QG) (es : Nat) (A : Nat → Prop) (σ ad : QSt) (hF : qWF σ) (i : Nat) (hi : i < σ 0 0) (hk9 : σ 69 i ≠ 107) (bq : Int32) : vx_Met l yL_plain wsL_plain ({ frames := 7, cells := 1, slots := 6, locals := 107 } : Room) (qX G es A σ ad [.ref (ad 0 0), .int (nI 1), .int (nI i), .int (bq)]) qNR (qXX "java/lang/IllegalStateException") 1 6 A := by
  refine vx_ofW (cc := cL_plain) (maxL := 4) (ret := (some .int)) (by decide) rfl ?_
  intro p e s m args below meth c s₁ B hml htab hv
  obtain ⟨rfl, hC, hW, hZ, hT⟩ := hv
  have hx := B.exec
  have hb := B.bytes
  have hts := atoms_spec (ws := wsL_plain) B.pre
  have hown : s.vm.findClass RL = some m.cls := findClass_of_methodNamed B.named
  have hlocks := B.notSynchronized
  have hS : va_S A s.heap s.heap [] := va_S.rf
  have hl := lv_entry ([.ref (ad 0 0), .int (nI 1), .int (nI i), .int (bq)]) (n := 4) (Nat.le_of_ble_eq_true rfl)
  rw [lg_entry_eq]
  generalize (lg_sl ([.ref (ad 0 0), .int (nI 1), .int (nI i), .int (bq)]) ++ List.replicate (4 - (lg_sl ([.ref (ad 0 0), .int (nI 1), .int (nI i), .int (bq)])).length) Slot.unset).toArray = ls at hl ⊢
  have hl : lv_has ls 4 [(0, .ref (ad 0 0)), (1, .int (nI 1)), (2, .int (nI i)), (3, .int (bq))] := hl
  refine lv_iload_n hx hb dL_plain_0 rfl (lv_at hl 1 rfl) ?_
  refine lv_tableIn (off := 38) (tgt := 39) hx hb dL_plain_1 (by decide +kernel) (by decide +kernel) (by decide +kernel) (by decide) ?_
  refine lv_aload_n hx hb dL_plain_39 rfl (lv_at hl 0 rfl) ?_
  refine lv_iload_n hx hb dL_plain_40 rfl (lv_at hl 2 rfl) ?_
  exact q_xo (vx_runV (As := [.int (nI i)]) (rest := []) ⟨hx, hb, hml, hown, hts⟩ (x_archive2 l hst G es A σ ad hF i hi hk9) (cwV 1 hts gL_plain_X7_archive rfl rfl rfl (by decide +kernel) ⟨Nat.le_of_ble_eq_true rfl, Nat.le_of_ble_eq_true rfl⟩) ⟨qX.blind, qrecv hC (hW.to qLV0) rfl, qX.pre hC hW hZ hT⟩ rfl rfl hl.1 rfl (lv_room (Nat.le_of_ble_eq_true rfl)) dL_plain_41 ⟨Nat.le_of_ble_eq_true rfl, Nat.le_of_ble_eq_true rfl⟩) hS (fun _ h => h) htab hlocks
set_option maxHeartbeats 4000000 in
set_option maxRecDepth 100000 in
theorem dx_archive2 (l : Launch) (hst : l.stackTraces = false) (G : QG) (es : Nat) (A : Nat → Prop) (σ ad : QSt) (hF : qWF σ) (i : Nat) (hi : i < σ 0 0) (hk9 : σ 69 i ≠ 107) (bq : Int32) : Met l yL_deed wsL_deed ({ frames := 8, cells := 1, slots := 6, locals := 130 } : Room) (qAk G es A σ ad [.ref (ad 0 0), .int (nI 1), .int (nI i), .int (bq)]) (qAP (some (.int (-2003)))) 1 6 A := by
  refine q_ofWH (cc := cL_deed) (maxL := 5) (ret := (some .int)) (hh := [(0, 7, 8, 21), (0, 7, 14, 23), (0, 7, 20, 50), (0, 7, 26, 52)]) (by decide) rfl ?_
  intro p e s m args below meth c s₁ B hml htab hv
  obtain ⟨rfl, hC, hW, hZ, hA, hT, hN⟩ := hv
  have hx := B.exec
  have hb := B.bytes
  have hr := B.returns
  have hts := atoms_spec (ws := wsL_deed) B.pre
  have hown : s.vm.findClass RL = some m.cls := findClass_of_methodNamed B.named
  have hlocks := B.notSynchronized
  have hS : va_S A s.heap s.heap [] := va_S.rf
  have hl := lv_entry ([.ref (ad 0 0), .int (nI 1), .int (nI i), .int (bq)]) (n := 5) (Nat.le_of_ble_eq_true rfl)
  rw [lg_entry_eq]
  generalize (lg_sl ([.ref (ad 0 0), .int (nI 1), .int (nI i), .int (bq)]) ++ List.replicate (5 - (lg_sl ([.ref (ad 0 0), .int (nI 1), .int (nI i), .int (bq)])).length) Slot.unset).toArray = ls at hl ⊢
  have hl : lv_has ls 5 [(0, .ref (ad 0 0)), (1, .int (nI 1)), (2, .int (nI i)), (3, .int (bq))] := hl
  refine lv_aload_n hx hb dL_deed_0 rfl (lv_at hl 0 rfl) ?_
  refine lv_iload_n hx hb dL_deed_1 rfl (lv_at hl 1 rfl) ?_
  refine lv_iload_n hx hb dL_deed_2 rfl (lv_at hl 2 rfl) ?_
  refine lv_iload_n hx hb dL_deed_3 rfl (lv_at hl 3 rfl) ?_
  refine q_xcatch (D := A) (a := [(0, 7, 8, 21)]) (h := (0, 7, 14, 23)) (b := [(0, 7, 20, 50), (0, 7, 26, 52)]) (vx_runS (As := [.ref (ad 0 0), .int (nI 1), .int (nI i), .int (bq)]) (rest := []) ⟨hx, hb, hml, hown, hts⟩ (px_archive2 l hst G es A σ ad hF i hi hk9 bq) (va_cwS 4 hts gL_deed_L_plain rfl rfl rfl (by decide +kernel) ⟨Nat.le_of_ble_eq_true rfl, Nat.le_of_ble_eq_true rfl⟩) ⟨qX.blind, qX.pre hC hW hZ hT⟩ rfl rfl hl.1 rfl (lv_room (Nat.le_of_ble_eq_true rfl)) dL_deed_4 ⟨Nat.le_of_ble_eq_true rfl, Nat.le_of_ble_eq_true rfl⟩) hS (fun _ h => h) hown htab rfl (List.forall_mem_cons.mpr ⟨⟨by decide, "java/lang/IllegalArgumentException", (hts (.classLink RL 21 "java/lang/IllegalArgumentException") (List.mem_of_getElem? (i := 1) (by decide +kernel))), hN ("java/lang/IllegalStateException", "java/lang/IllegalArgumentException") (by decide)⟩, (List.forall_mem_nil _)⟩) (by decide) (by decide) (hts (.classLink RL 23 "java/lang/IllegalStateException") (List.mem_of_getElem? (i := 2) (by decide +kernel))) (q_qw hC (by decide +kernel)) (fun H1 locs q9 hz hk hS => ?_)
  refine lv_astore (lv' := [(4, .ref (q9)), (0, .ref (ad 0 0)), (1, .int (nI 1)), (2, .int (nI i)), (3, .int (bq))]) hx hb dL_deed_14 hl (by decide) rfl (fun ls hl => ?_)
  refine lv_sipush (v := -2003) hx hb dL_deed_16 (by decide) ?_
  exact W.iret hx hb hr (fun t ht _ => ⟨rfl, by rw [ht]; exact ⟨hz, hk⟩⟩) hS.2.2 dL_deed_19
set_option maxHeartbeats 4000000 in
set_option maxRecDepth 100000 in
theorem px_release2 (l : Launch) (hst : l.stackTraces = false) (G : QG) (es : Nat) (A : Nat → Prop) (σ ad : QSt) (hF : qWF σ) (f : Nat) (hf : f < σ 0 3) (h1 : σ 162 f = 1) (bq : Int32) : vx_Met l yL_plain wsL_plain ({ frames := 7, cells := 1, slots := 6, locals := 107 } : Room) (qX G es A σ ad [.ref (ad 0 0), .int (nI 3), .int (nI f), .int (bq)]) qNR (qXX "java/lang/IllegalStateException") 1 6 A := by
  refine vx_ofW (cc := cL_plain) (maxL := 4) (ret := (some .int)) (by decide) rfl ?_
  intro p e s m args below meth c s₁ B hml htab hv
  obtain ⟨rfl, hC, hW, hZ, hT⟩ := hv
  have hx := B.exec
  have hb := B.bytes
  have hts := atoms_spec (ws := wsL_plain) B.pre
  have hown : s.vm.findClass RL = some m.cls := findClass_of_methodNamed B.named
  have hlocks := B.notSynchronized
  have hS : va_S A s.heap s.heap [] := va_S.rf
  have hl := lv_entry ([.ref (ad 0 0), .int (nI 3), .int (nI f), .int (bq)]) (n := 4) (Nat.le_of_ble_eq_true rfl)
  rw [lg_entry_eq]
  generalize (lg_sl ([.ref (ad 0 0), .int (nI 3), .int (nI f), .int (bq)]) ++ List.replicate (4 - (lg_sl ([.ref (ad 0 0), .int (nI 3), .int (nI f), .int (bq)])).length) Slot.unset).toArray = ls at hl ⊢
  have hl : lv_has ls 4 [(0, .ref (ad 0 0)), (1, .int (nI 3)), (2, .int (nI f)), (3, .int (bq))] := hl
  refine lv_iload_n hx hb dL_plain_0 rfl (lv_at hl 1 rfl) ?_
  refine lv_tableIn (off := 51) (tgt := 52) hx hb dL_plain_1 (by decide +kernel) (by decide +kernel) (by decide +kernel) (by decide) ?_
  refine lv_aload_n hx hb dL_plain_52 rfl (lv_at hl 0 rfl) ?_
  refine lv_iload_n hx hb dL_plain_53 rfl (lv_at hl 2 rfl) ?_
  exact q_xo (vx_runV (As := [.int (nI f)]) (rest := []) ⟨hx, hb, hml, hown, hts⟩ (x_release2 l hst G es A σ ad hF f hf h1) (cwV 1 hts gL_plain_X7_release rfl rfl rfl (by decide +kernel) ⟨Nat.le_of_ble_eq_true rfl, Nat.le_of_ble_eq_true rfl⟩) ⟨qX.blind, qrecv hC (hW.to qLV0) rfl, qX.pre hC hW hZ hT⟩ rfl rfl hl.1 rfl (lv_room (Nat.le_of_ble_eq_true rfl)) dL_plain_54 ⟨Nat.le_of_ble_eq_true rfl, Nat.le_of_ble_eq_true rfl⟩) hS (fun _ h => h) htab hlocks
set_option maxHeartbeats 4000000 in
set_option maxRecDepth 100000 in
theorem dx_release2 (l : Launch) (hst : l.stackTraces = false) (G : QG) (es : Nat) (A : Nat → Prop) (σ ad : QSt) (hF : qWF σ) (f : Nat) (hf : f < σ 0 3) (h1 : σ 162 f = 1) (bq : Int32) : Met l yL_deed wsL_deed ({ frames := 8, cells := 1, slots := 6, locals := 130 } : Room) (qAk G es A σ ad [.ref (ad 0 0), .int (nI 3), .int (nI f), .int (bq)]) (qAP (some (.int (-2003)))) 1 6 A := by
  refine q_ofWH (cc := cL_deed) (maxL := 5) (ret := (some .int)) (hh := [(0, 7, 8, 21), (0, 7, 14, 23), (0, 7, 20, 50), (0, 7, 26, 52)]) (by decide) rfl ?_
  intro p e s m args below meth c s₁ B hml htab hv
  obtain ⟨rfl, hC, hW, hZ, hA, hT, hN⟩ := hv
  have hx := B.exec
  have hb := B.bytes
  have hr := B.returns
  have hts := atoms_spec (ws := wsL_deed) B.pre
  have hown : s.vm.findClass RL = some m.cls := findClass_of_methodNamed B.named
  have hlocks := B.notSynchronized
  have hS : va_S A s.heap s.heap [] := va_S.rf
  have hl := lv_entry ([.ref (ad 0 0), .int (nI 3), .int (nI f), .int (bq)]) (n := 5) (Nat.le_of_ble_eq_true rfl)
  rw [lg_entry_eq]
  generalize (lg_sl ([.ref (ad 0 0), .int (nI 3), .int (nI f), .int (bq)]) ++ List.replicate (5 - (lg_sl ([.ref (ad 0 0), .int (nI 3), .int (nI f), .int (bq)])).length) Slot.unset).toArray = ls at hl ⊢
  have hl : lv_has ls 5 [(0, .ref (ad 0 0)), (1, .int (nI 3)), (2, .int (nI f)), (3, .int (bq))] := hl
  refine lv_aload_n hx hb dL_deed_0 rfl (lv_at hl 0 rfl) ?_
  refine lv_iload_n hx hb dL_deed_1 rfl (lv_at hl 1 rfl) ?_
  refine lv_iload_n hx hb dL_deed_2 rfl (lv_at hl 2 rfl) ?_
  refine lv_iload_n hx hb dL_deed_3 rfl (lv_at hl 3 rfl) ?_
  refine q_xcatch (D := A) (a := [(0, 7, 8, 21)]) (h := (0, 7, 14, 23)) (b := [(0, 7, 20, 50), (0, 7, 26, 52)]) (vx_runS (As := [.ref (ad 0 0), .int (nI 3), .int (nI f), .int (bq)]) (rest := []) ⟨hx, hb, hml, hown, hts⟩ (px_release2 l hst G es A σ ad hF f hf h1 bq) (va_cwS 4 hts gL_deed_L_plain rfl rfl rfl (by decide +kernel) ⟨Nat.le_of_ble_eq_true rfl, Nat.le_of_ble_eq_true rfl⟩) ⟨qX.blind, qX.pre hC hW hZ hT⟩ rfl rfl hl.1 rfl (lv_room (Nat.le_of_ble_eq_true rfl)) dL_deed_4 ⟨Nat.le_of_ble_eq_true rfl, Nat.le_of_ble_eq_true rfl⟩) hS (fun _ h => h) hown htab rfl (List.forall_mem_cons.mpr ⟨⟨by decide, "java/lang/IllegalArgumentException", (hts (.classLink RL 21 "java/lang/IllegalArgumentException") (List.mem_of_getElem? (i := 1) (by decide +kernel))), hN ("java/lang/IllegalStateException", "java/lang/IllegalArgumentException") (by decide)⟩, (List.forall_mem_nil _)⟩) (by decide) (by decide) (hts (.classLink RL 23 "java/lang/IllegalStateException") (List.mem_of_getElem? (i := 2) (by decide +kernel))) (q_qw hC (by decide +kernel)) (fun H1 locs q9 hz hk hS => ?_)
  refine lv_astore (lv' := [(4, .ref (q9)), (0, .ref (ad 0 0)), (1, .int (nI 3)), (2, .int (nI f)), (3, .int (bq))]) hx hb dL_deed_14 hl (by decide) rfl (fun ls hl => ?_)
  refine lv_sipush (v := -2003) hx hb dL_deed_16 (by decide) ?_
  exact W.iret hx hb hr (fun t ht _ => ⟨rfl, by rw [ht]; exact ⟨hz, hk⟩⟩) hS.2.2 dL_deed_19
set_option maxHeartbeats 4000000 in
set_option maxRecDepth 100000 in
theorem px_release3 (l : Launch) (hst : l.stackTraces = false) (G : QG) (es : Nat) (A : Nat → Prop) (σ ad : QSt) (hF : qWF σ) (f : Nat) (hf : f < σ 0 3) (h1 : σ 162 f = 0) (h2 : σ 131 (σ 160 f) ≠ 113) (h3 : σ 134 (σ 160 f) = f + 1) (bq : Int32) : vx_Met l yL_plain wsL_plain ({ frames := 7, cells := 1, slots := 6, locals := 107 } : Room) (qX G es A σ ad [.ref (ad 0 0), .int (nI 3), .int (nI f), .int (bq)]) qNR (qXX "java/lang/UnsupportedOperationException") 1 6 A := by
  refine vx_ofW (cc := cL_plain) (maxL := 4) (ret := (some .int)) (by decide) rfl ?_
  intro p e s m args below meth c s₁ B hml htab hv
  obtain ⟨rfl, hC, hW, hZ, hT⟩ := hv
  have hx := B.exec
  have hb := B.bytes
  have hts := atoms_spec (ws := wsL_plain) B.pre
  have hown : s.vm.findClass RL = some m.cls := findClass_of_methodNamed B.named
  have hlocks := B.notSynchronized
  have hS : va_S A s.heap s.heap [] := va_S.rf
  have hl := lv_entry ([.ref (ad 0 0), .int (nI 3), .int (nI f), .int (bq)]) (n := 4) (Nat.le_of_ble_eq_true rfl)
  rw [lg_entry_eq]
  generalize (lg_sl ([.ref (ad 0 0), .int (nI 3), .int (nI f), .int (bq)]) ++ List.replicate (4 - (lg_sl ([.ref (ad 0 0), .int (nI 3), .int (nI f), .int (bq)])).length) Slot.unset).toArray = ls at hl ⊢
  have hl : lv_has ls 4 [(0, .ref (ad 0 0)), (1, .int (nI 3)), (2, .int (nI f)), (3, .int (bq))] := hl
  refine lv_iload_n hx hb dL_plain_0 rfl (lv_at hl 1 rfl) ?_
  refine lv_tableIn (off := 51) (tgt := 52) hx hb dL_plain_1 (by decide +kernel) (by decide +kernel) (by decide +kernel) (by decide) ?_
  refine lv_aload_n hx hb dL_plain_52 rfl (lv_at hl 0 rfl) ?_
  refine lv_iload_n hx hb dL_plain_53 rfl (lv_at hl 2 rfl) ?_
  exact q_xo (vx_runV (As := [.int (nI f)]) (rest := []) ⟨hx, hb, hml, hown, hts⟩ (x_release3 l hst G es A σ ad hF f hf h1 h2 h3) (cwV 1 hts gL_plain_X7_release rfl rfl rfl (by decide +kernel) ⟨Nat.le_of_ble_eq_true rfl, Nat.le_of_ble_eq_true rfl⟩) ⟨qX.blind, qrecv hC (hW.to qLV0) rfl, qX.pre hC hW hZ hT⟩ rfl rfl hl.1 rfl (lv_room (Nat.le_of_ble_eq_true rfl)) dL_plain_54 ⟨Nat.le_of_ble_eq_true rfl, Nat.le_of_ble_eq_true rfl⟩) hS (fun _ h => h) htab hlocks
set_option maxHeartbeats 4000000 in
set_option maxRecDepth 100000 in
theorem dx_release3 (l : Launch) (hst : l.stackTraces = false) (G : QG) (es : Nat) (A : Nat → Prop) (σ ad : QSt) (hF : qWF σ) (f : Nat) (hf : f < σ 0 3) (h1 : σ 162 f = 0) (h2 : σ 131 (σ 160 f) ≠ 113) (h3 : σ 134 (σ 160 f) = f + 1) (bq : Int32) : Met l yL_deed wsL_deed ({ frames := 8, cells := 1, slots := 6, locals := 130 } : Room) (qAk G es A σ ad [.ref (ad 0 0), .int (nI 3), .int (nI f), .int (bq)]) (qAP (some (.int (-2004)))) 1 6 A := by
  refine q_ofWH (cc := cL_deed) (maxL := 5) (ret := (some .int)) (hh := [(0, 7, 8, 21), (0, 7, 14, 23), (0, 7, 20, 50), (0, 7, 26, 52)]) (by decide) rfl ?_
  intro p e s m args below meth c s₁ B hml htab hv
  obtain ⟨rfl, hC, hW, hZ, hA, hT, hN⟩ := hv
  have hx := B.exec
  have hb := B.bytes
  have hr := B.returns
  have hts := atoms_spec (ws := wsL_deed) B.pre
  have hown : s.vm.findClass RL = some m.cls := findClass_of_methodNamed B.named
  have hlocks := B.notSynchronized
  have hS : va_S A s.heap s.heap [] := va_S.rf
  have hl := lv_entry ([.ref (ad 0 0), .int (nI 3), .int (nI f), .int (bq)]) (n := 5) (Nat.le_of_ble_eq_true rfl)
  rw [lg_entry_eq]
  generalize (lg_sl ([.ref (ad 0 0), .int (nI 3), .int (nI f), .int (bq)]) ++ List.replicate (5 - (lg_sl ([.ref (ad 0 0), .int (nI 3), .int (nI f), .int (bq)])).length) Slot.unset).toArray = ls at hl ⊢
  have hl : lv_has ls 5 [(0, .ref (ad 0 0)), (1, .int (nI 3)), (2, .int (nI f)), (3, .int (bq))] := hl
  refine lv_aload_n hx hb dL_deed_0 rfl (lv_at hl 0 rfl) ?_
  refine lv_iload_n hx hb dL_deed_1 rfl (lv_at hl 1 rfl) ?_
  refine lv_iload_n hx hb dL_deed_2 rfl (lv_at hl 2 rfl) ?_
  refine lv_iload_n hx hb dL_deed_3 rfl (lv_at hl 3 rfl) ?_
  refine q_xcatch (D := A) (a := [(0, 7, 8, 21), (0, 7, 14, 23)]) (h := (0, 7, 20, 50)) (b := [(0, 7, 26, 52)]) (vx_runS (As := [.ref (ad 0 0), .int (nI 3), .int (nI f), .int (bq)]) (rest := []) ⟨hx, hb, hml, hown, hts⟩ (px_release3 l hst G es A σ ad hF f hf h1 h2 h3 bq) (va_cwS 4 hts gL_deed_L_plain rfl rfl rfl (by decide +kernel) ⟨Nat.le_of_ble_eq_true rfl, Nat.le_of_ble_eq_true rfl⟩) ⟨qX.blind, qX.pre hC hW hZ hT⟩ rfl rfl hl.1 rfl (lv_room (Nat.le_of_ble_eq_true rfl)) dL_deed_4 ⟨Nat.le_of_ble_eq_true rfl, Nat.le_of_ble_eq_true rfl⟩) hS (fun _ h => h) hown htab rfl (List.forall_mem_cons.mpr ⟨⟨by decide, "java/lang/IllegalArgumentException", (hts (.classLink RL 21 "java/lang/IllegalArgumentException") (List.mem_of_getElem? (i := 1) (by decide +kernel))), hN ("java/lang/UnsupportedOperationException", "java/lang/IllegalArgumentException") (by decide)⟩, (List.forall_mem_cons.mpr ⟨⟨by decide, "java/lang/IllegalStateException", (hts (.classLink RL 23 "java/lang/IllegalStateException") (List.mem_of_getElem? (i := 2) (by decide +kernel))), hN ("java/lang/UnsupportedOperationException", "java/lang/IllegalStateException") (by decide)⟩, (List.forall_mem_nil _)⟩)⟩) (by decide) (by decide) (hts (.classLink RL 50 "java/lang/UnsupportedOperationException") (List.mem_of_getElem? (i := 3) (by decide +kernel))) (q_qw hC (by decide +kernel)) (fun H1 locs q9 hz hk hS => ?_)
  refine lv_astore (lv' := [(4, .ref (q9)), (0, .ref (ad 0 0)), (1, .int (nI 3)), (2, .int (nI f)), (3, .int (bq))]) hx hb dL_deed_20 hl (by decide) rfl (fun ls hl => ?_)
  refine lv_sipush (v := -2004) hx hb dL_deed_22 (by decide) ?_
  exact W.iret hx hb hr (fun t ht _ => ⟨rfl, by rw [ht]; exact ⟨hz, hk⟩⟩) hS.2.2 dL_deed_25
set_option maxHeartbeats 4000000 in
set_option maxRecDepth 100000 in
theorem k_lineK (l : Launch) (hst : l.stackTraces = false) (G : QG) (es : Nat) (A : Nat → Prop) (σ ad : QSt) (hv : zIv σ) (hj : jI σ) (s0 r0 x1 x2 x3 b0 : Nat) (hs0 : s0 < 2) (hr0 : r0 < 5) (hx1 : x1 < 100) (hx2 : x2 < 100) (hx3 : x3 < 100) (hb0 : 1 ≤ b0 ∧ b0 ≤ 99) (hn0 : σ 0 0 < 200) (p0 : Nat) (hr9 : qFst (fun q => σ 97 q = 0 ∧ s0 = σ 96 q ∧ qft (fun k => σ (112 + k) q) (fun k => if k = 0 then x1 else if k = 1 then x2 else x3)) (σ 0 1) (some p0)) : Met l yL_line wsL_line ({ frames := 10, cells := 24, slots := 14000, locals := 246 } : Room) (qW G es A σ ad [.ref (ad 0 0), .int (nI s0), .int (nI r0), .int (nI x1), .int (nI x2), .int (nI x3), .int (nI b0)]) (qWV (some (.int (nI (σ 0 0)))) (fun H => ∃ τ ad' : QSt, jNew σ τ s0 r0 x1 x2 x3 b0 ∧ ad' 0 0 = ad 0 0 ∧ qLW G es A τ ad' H) A) 24 14000 A := by
  refine q_ofWH (cc := cL_line) (maxL := 8) (ret := (some .int)) (hh := [(0, 13, 14, 21), (0, 13, 20, 23)]) (by decide) rfl ?_
  intro p e s m args below meth c s₁ B hml htab hv
  obtain ⟨rfl, hC, hW, hZ, hA⟩ := hv
  have hx := B.exec
  have hb := B.bytes
  have hr := B.returns
  have hts := atoms_spec (ws := wsL_line) B.pre
  have hown : s.vm.findClass RL = some m.cls := findClass_of_methodNamed B.named
  have hlocks := B.notSynchronized
  have hF := hv.1.wf
  have hn := hF.n
  obtain ⟨hl1, hl2, hl3⟩ := l_num hv
  have hc0 := (l_cap hv 0).1
  have hc1 := (l_cap hv 1).1
  have hs04 : s0 < 4 := by omega
  obtain ⟨hp, hm, hlow⟩ := id hr9
  obtain ⟨hT, hTn, hco, -, -⟩ := zLineK hv (zRel_can hv) hs04 hr0 hx1 hx2 hx3 hb0 hn0 hp hm
  have hNew := jLineK hv hj hs0 hr0 hx1 hx2 hx3 hb0 hn0 hp hm
  have t2 : (qfLi σ s0 r0 x1 x2 x3 b0 p0) 0 2 = σ 0 2 := qfLi_r (by omega) (by omega)
  have cp := (hTn.cap 3).1
  have cn := hTn.n
  have hroom : (3 + 3 * ((qfSa (qfLi σ s0 r0 x1 x2 x3 b0 p0) (σ 0 0) ((qfLi σ s0 r0 x1 x2 x3 b0 p0) 0 2)) 0 3 - (qfLi σ s0 r0 x1 x2 x3 b0 p0) 0 3)) ≤ 24 ∧ (11 + (qcap (σ 0 0) (σ 32 0)) + (10 * ((qfSa (qfLi σ s0 r0 x1 x2 x3 b0 p0) (σ 0 0) ((qfLi σ s0 r0 x1 x2 x3 b0 p0) 0 2)) 0 3 - (qfLi σ s0 r0 x1 x2 x3 b0 p0) 0 3) + 3 * ((qfSa (qfLi σ s0 r0 x1 x2 x3 b0 p0) (σ 0 0) ((qfLi σ s0 r0 x1 x2 x3 b0 p0) 0 2)) 32 3 - (qfLi σ s0 r0 x1 x2 x3 b0 p0) 32 3))) ≤ 14000 := by omega
  have hS : va_S A s.heap s.heap [] := va_S.rf
  have hl := lv_entry ([.ref (ad 0 0), .int (nI s0), .int (nI r0), .int (nI x1), .int (nI x2), .int (nI x3), .int (nI b0)]) (n := 8) (Nat.le_of_ble_eq_true rfl)
  rw [lg_entry_eq]
  generalize (lg_sl ([.ref (ad 0 0), .int (nI s0), .int (nI r0), .int (nI x1), .int (nI x2), .int (nI x3), .int (nI b0)]) ++ List.replicate (8 - (lg_sl ([.ref (ad 0 0), .int (nI s0), .int (nI r0), .int (nI x1), .int (nI x2), .int (nI x3), .int (nI b0)])).length) Slot.unset).toArray = ls at hl ⊢
  have hl : lv_has ls 8 [(0, .ref (ad 0 0)), (1, .int (nI s0)), (2, .int (nI r0)), (3, .int (nI x1)), (4, .int (nI x2)), (5, .int (nI x3)), (6, .int (nI b0))] := hl
  refine lv_aload_n hx hb dL_line_0 rfl (lv_at hl 0 rfl) ?_
  refine lv_iload_n hx hb dL_line_1 rfl (lv_at hl 1 rfl) ?_
  refine lv_iload_n hx hb dL_line_2 rfl (lv_at hl 2 rfl) ?_
  refine lv_iload_n hx hb dL_line_3 rfl (lv_at hl 3 rfl) ?_
  refine lv_iload hx hb dL_line_4 (lv_at hl 4 rfl) ?_
  refine lv_iload hx hb dL_line_6 (lv_at hl 5 rfl) ?_
  refine lv_iload hx hb dL_line_8 (lv_at hl 6 rfl) ?_
  refine q_wv (va_runV (As := [.int (nI s0), .int (nI r0), .int (nI x1), .int (nI x2), .int (nI x3), .int (nI b0)]) (rest := []) ⟨hx, hb, hml, hown, hts⟩ (m_addLineK l G es A σ ad hF s0 r0 x1 x2 x3 b0 p0 hs04 hr0 hx1 hx2 hx3 hb0 hn0 (l_16 hv (by decide)) hr9 (qcap (σ 0 0) (σ 32 0)) (Or.inr (Nat.le_refl _)) hT hTn) (cwV 6 hts gL_line_X7_addLine rfl rfl rfl (by decide +kernel) ⟨Nat.le_of_ble_eq_true rfl, Nat.le_of_ble_eq_true rfl⟩) ⟨qW.blind, qrecv hC (hW.to qLV0) rfl, qW.pre hC hW hZ (va_S.rf (A := A)) (fun _ h => h) hA⟩ rfl rfl hl.1 rfl (lv_room (Nat.le_of_ble_eq_true rfl)) dL_line_10 ⟨Nat.le_trans (Nat.le_of_eq (Nat.zero_add _)) hroom.1, Nat.le_trans (Nat.le_of_eq (Nat.zero_add _)) hroom.2⟩) hS (fun _ h => h) (fun _ h => h) (fun H1 locs hP9 hz hk hS => ?_)
  obtain ⟨ad', hAE, hW2⟩ := hP9
  refine W.widen (k := 24) (n := 14000) (Nat.le_trans (Nat.le_of_eq (Nat.zero_add _)) hroom.1) (Nat.le_trans (Nat.le_of_eq (Nat.zero_add _)) hroom.2) ?_
  exact W.iret hx hb hr (fun t ht _ => ⟨rfl, by rw [ht]; exact ⟨_, ad', hNew, hAE 0 0 (by decide) (fun z => absurd z (by decide)), hW2⟩, hS.F ht⟩) hS.2.2 dL_line_13
set_option maxHeartbeats 4000000 in
set_option maxRecDepth 100000 in
theorem k_lineL (l : Launch) (hst : l.stackTraces = false) (G : QG) (es : Nat) (A : Nat → Prop) (σ ad : QSt) (hv : zIv σ) (hj : jI σ) (s0 r0 x1 x2 x3 b0 : Nat) (hs0 : s0 < 2) (hr0 : r0 < 5) (hx1 : x1 < 100) (hx2 : x2 < 100) (hx3 : x3 < 100) (hb0 : 1 ≤ b0 ∧ b0 ≤ 99) (hn0 : σ 0 0 < 200) (hr9 : qFst (fun q => σ 97 q = 0 ∧ s0 = σ 96 q ∧ qft (fun k => σ (112 + k) q) (fun k => if k = 0 then x1 else if k = 1 then x2 else x3)) (σ 0 1) none) : Met l yL_line wsL_line ({ frames := 10, cells := 24, slots := 14000, locals := 246 } : Room) (qW G es A σ ad [.ref (ad 0 0), .int (nI s0), .int (nI r0), .int (nI x1), .int (nI x2), .int (nI x3), .int (nI b0)]) (qWV (some (.int (nI (σ 0 0)))) (fun H => ∃ τ ad' : QSt, jNew σ τ s0 r0 x1 x2 x3 b0 ∧ ad' 0 0 = ad 0 0 ∧ qLW G es A τ ad' H) A) 24 14000 A := by
  refine q_ofWH (cc := cL_line) (maxL := 8) (ret := (some .int)) (hh := [(0, 13, 14, 21), (0, 13, 20, 23)]) (by decide) rfl ?_
  intro p e s m args below meth c s₁ B hml htab hv
  obtain ⟨rfl, hC, hW, hZ, hA⟩ := hv
  have hx := B.exec
  have hb := B.bytes
  have hr := B.returns
  have hts := atoms_spec (ws := wsL_line) B.pre
  have hown : s.vm.findClass RL = some m.cls := findClass_of_methodNamed B.named
  have hlocks := B.notSynchronized
  have hF := hv.1.wf
  have hn := hF.n
  obtain ⟨hl1, hl2, hl3⟩ := l_num hv
  have hc0 := (l_cap hv 0).1
  have hc1 := (l_cap hv 1).1
  have hs04 : s0 < 4 := by omega
  have hn1 : σ 0 1 < 200 := by have := hv.1.ip.1; omega
  obtain ⟨hT, hTn, hco, hX, hX0, hX32, hT32, -, -⟩ := zLineL hv (zRel_can hv) (s0 := s0) hs04 hr0 hx1 hx2 hx3 hb0 hn0
  have hNew := jLineL hv hj hs0 hr0 hx1 hx2 hx3 hb0 hn0
  have t2 := hX 2 (by decide) (by decide)
  have t3 := hX 3 (by decide) (by decide)
  have cp := (hTn.cap 3).1
  have cn := hTn.n
  have hms : qcap ((qfLe σ s0 x1 x2 x3) 0 0) ((qfLe σ s0 x1 x2 x3) 32 0) ≤ 12 + 2 * σ 0 0 := by rw [hX0, hX32]; exact hc0
  have hroom : (6 + 3 * ((qfSa (qmI (qfLi (qfLe σ s0 x1 x2 x3) s0 r0 x1 x2 x3 b0 (σ 0 1)) (σ 0 1) ((qfLi (qfLe σ s0 x1 x2 x3) s0 r0 x1 x2 x3 b0 (σ 0 1)) 0 1)).1 ((qfLe σ s0 x1 x2 x3) 0 0) ((qmI (qfLi (qfLe σ s0 x1 x2 x3) s0 r0 x1 x2 x3 b0 (σ 0 1)) (σ 0 1) ((qfLi (qfLe σ s0 x1 x2 x3) s0 r0 x1 x2 x3 b0 (σ 0 1)) 0 1)).1 0 2)) 0 3 - (qmI (qfLi (qfLe σ s0 x1 x2 x3) s0 r0 x1 x2 x3 b0 (σ 0 1)) (σ 0 1) ((qfLi (qfLe σ s0 x1 x2 x3) s0 r0 x1 x2 x3 b0 (σ 0 1)) 0 1)).1 0 3)) ≤ 24 ∧ (18 + (qcap (σ 0 1) (σ 32 1)) + (12 + 2 * σ 0 0) + (10 * ((qfSa (qmI (qfLi (qfLe σ s0 x1 x2 x3) s0 r0 x1 x2 x3 b0 (σ 0 1)) (σ 0 1) ((qfLi (qfLe σ s0 x1 x2 x3) s0 r0 x1 x2 x3 b0 (σ 0 1)) 0 1)).1 ((qfLe σ s0 x1 x2 x3) 0 0) ((qmI (qfLi (qfLe σ s0 x1 x2 x3) s0 r0 x1 x2 x3 b0 (σ 0 1)) (σ 0 1) ((qfLi (qfLe σ s0 x1 x2 x3) s0 r0 x1 x2 x3 b0 (σ 0 1)) 0 1)).1 0 2)) 0 3 - (qmI (qfLi (qfLe σ s0 x1 x2 x3) s0 r0 x1 x2 x3 b0 (σ 0 1)) (σ 0 1) ((qfLi (qfLe σ s0 x1 x2 x3) s0 r0 x1 x2 x3 b0 (σ 0 1)) 0 1)).1 0 3) + 3 * ((qfSa (qmI (qfLi (qfLe σ s0 x1 x2 x3) s0 r0 x1 x2 x3 b0 (σ 0 1)) (σ 0 1) ((qfLi (qfLe σ s0 x1 x2 x3) s0 r0 x1 x2 x3 b0 (σ 0 1)) 0 1)).1 ((qfLe σ s0 x1 x2 x3) 0 0) ((qmI (qfLi (qfLe σ s0 x1 x2 x3) s0 r0 x1 x2 x3 b0 (σ 0 1)) (σ 0 1) ((qfLi (qfLe σ s0 x1 x2 x3) s0 r0 x1 x2 x3 b0 (σ 0 1)) 0 1)).1 0 2)) 32 3 - (qmI (qfLi (qfLe σ s0 x1 x2 x3) s0 r0 x1 x2 x3 b0 (σ 0 1)) (σ 0 1) ((qfLi (qfLe σ s0 x1 x2 x3) s0 r0 x1 x2 x3 b0 (σ 0 1)) 0 1)).1 32 3))) ≤ 14000 := by omega
  have hS : va_S A s.heap s.heap [] := va_S.rf
  have hl := lv_entry ([.ref (ad 0 0), .int (nI s0), .int (nI r0), .int (nI x1), .int (nI x2), .int (nI x3), .int (nI b0)]) (n := 8) (Nat.le_of_ble_eq_true rfl)
  rw [lg_entry_eq]
  generalize (lg_sl ([.ref (ad 0 0), .int (nI s0), .int (nI r0), .int (nI x1), .int (nI x2), .int (nI x3), .int (nI b0)]) ++ List.replicate (8 - (lg_sl ([.ref (ad 0 0), .int (nI s0), .int (nI r0), .int (nI x1), .int (nI x2), .int (nI x3), .int (nI b0)])).length) Slot.unset).toArray = ls at hl ⊢
  have hl : lv_has ls 8 [(0, .ref (ad 0 0)), (1, .int (nI s0)), (2, .int (nI r0)), (3, .int (nI x1)), (4, .int (nI x2)), (5, .int (nI x3)), (6, .int (nI b0))] := hl
  refine lv_aload_n hx hb dL_line_0 rfl (lv_at hl 0 rfl) ?_
  refine lv_iload_n hx hb dL_line_1 rfl (lv_at hl 1 rfl) ?_
  refine lv_iload_n hx hb dL_line_2 rfl (lv_at hl 2 rfl) ?_
  refine lv_iload_n hx hb dL_line_3 rfl (lv_at hl 3 rfl) ?_
  refine lv_iload hx hb dL_line_4 (lv_at hl 4 rfl) ?_
  refine lv_iload hx hb dL_line_6 (lv_at hl 5 rfl) ?_
  refine lv_iload hx hb dL_line_8 (lv_at hl 6 rfl) ?_
  refine q_wv (va_runV (As := [.int (nI s0), .int (nI r0), .int (nI x1), .int (nI x2), .int (nI x3), .int (nI b0)]) (rest := []) ⟨hx, hb, hml, hown, hts⟩ (m_addLineL l G es A σ ad hF s0 r0 x1 x2 x3 b0 hs04 hr0 hx1 hx2 hx3 hb0 hn0 (l_16 hv (by decide)) hn1 (l_16 hv (by decide)) hr9 (qcap (σ 0 1) (σ 32 1)) (12 + 2 * σ 0 0) (Or.inr (Nat.le_refl _)) (Or.inr hms) hT hTn) (cwV 6 hts gL_line_X7_addLine rfl rfl rfl (by decide +kernel) ⟨Nat.le_of_ble_eq_true rfl, Nat.le_of_ble_eq_true rfl⟩) ⟨qW.blind, qrecv hC (hW.to qLV0) rfl, qW.pre hC hW hZ (va_S.rf (A := A)) (fun _ h => h) hA⟩ rfl rfl hl.1 rfl (lv_room (Nat.le_of_ble_eq_true rfl)) dL_line_10 ⟨Nat.le_trans (Nat.le_of_eq (Nat.zero_add _)) hroom.1, Nat.le_trans (Nat.le_of_eq (Nat.zero_add _)) hroom.2⟩) hS (fun _ h => h) (fun _ h => h) (fun H1 locs hP9 hz hk hS => ?_)
  obtain ⟨ad', hAE, hW2⟩ := hP9
  refine W.widen (k := 24) (n := 14000) (Nat.le_trans (Nat.le_of_eq (Nat.zero_add _)) hroom.1) (Nat.le_trans (Nat.le_of_eq (Nat.zero_add _)) hroom.2) ?_
  exact W.iret hx hb hr (fun t ht _ => ⟨rfl, by rw [ht]; exact ⟨_, ad', hNew, hAE 0 0 (by decide) (fun z => absurd z (by decide)), hW2⟩, hS.F ht⟩) hS.2.2 dL_line_13
theorem k_line (l : Launch) (hst : l.stackTraces = false) (G : QG) (es : Nat) (A : Nat → Prop) (σ ad : QSt) (hv : zIv σ) (hj : jI σ) (s0 r0 x1 x2 x3 b0 : Nat) (hs0 : s0 < 2) (hr0 : r0 < 5) (hx1 : x1 < 100) (hx2 : x2 < 100) (hx3 : x3 < 100) (hb0 : 1 ≤ b0 ∧ b0 ≤ 99) (hn0 : σ 0 0 < 200) : ∃ fr lo, fr ≤ 14 ∧ lo ≤ 400 ∧ Met l yL_line wsL_line ({ frames := fr, cells := 24, slots := 14000, locals := lo } : Room) (qW G es A σ ad [.ref (ad 0 0), .int (nI s0), .int (nI r0), .int (nI x1), .int (nI x2), .int (nI x3), .int (nI b0)]) (qWV (some (.int (nI (σ 0 0)))) (fun H => ∃ τ ad' : QSt, jNew σ τ s0 r0 x1 x2 x3 b0 ∧ ad' 0 0 = ad 0 0 ∧ qLW G es A τ ad' H) A) 24 14000 A := by
  obtain ⟨r9, hr9⟩ := qFst_ex (fun q => σ 97 q = 0 ∧ s0 = σ 96 q ∧ qft (fun k => σ (112 + k) q) (fun k => if k = 0 then x1 else if k = 1 then x2 else x3)) (σ 0 1)
  cases r9 with
  | some p0 => exact ⟨10, 246, by decide, by decide, k_lineK l hst G es A σ ad hv hj s0 r0 x1 x2 x3 b0 hs0 hr0 hx1 hx2 hx3 hb0 hn0 p0 hr9⟩
  | none => exact ⟨10, 246, by decide, by decide, k_lineL l hst G es A σ ad hv hj s0 r0 x1 x2 x3 b0 hs0 hr0 hx1 hx2 hx3 hb0 hn0 hr9⟩
set_option maxHeartbeats 4000000 in
set_option maxRecDepth 100000 in
theorem k_alert (l : Launch) (hst : l.stackTraces = false) (G : QG) (es : Nat) (A : Nat → Prop) (σ ad : QSt) (hv : zIv σ) (hj : jI σ) (s0 r0 P w0 g0 n0 h0 t0 za : Nat) (hs0 : s0 < 4) (hr0 : r0 < 5) (hP : P ≤ 3) (hw0 : w0 < 100) (hg0 : 1 ≤ g0 ∧ g0 ≤ 9) (hn0 : 1 ≤ n0 ∧ n0 ≤ 50) (hh0 : h0 ≤ 20) (ht0 : t0 ≤ 42) (af : Nat → Int32) (f0 : af t0 = nI s0) (f1 : af (t0 + 1) = nI r0) (f2 : af (t0 + 2) = nI P - 1) (f3 : af (t0 + 3) = nI w0) (f4 : af (t0 + 4) = nI g0) (f5 : af (t0 + 5) = nI n0) (f6 : af (t0 + 6) = nI h0) (hn2 : σ 0 2 < 6) : Met l yL_alert wsL_alert ({ frames := 9, cells := 24, slots := 14000, locals := 222 } : Room) (qLg G es A σ ad za (.inl (G.2 1, 49, .inl af)) [.ref (ad 0 0), .ref (za), .int (nI t0)]) (qWV (some (.int (nI (σ 0 2)))) (fun H => ∃ ad' : QSt, ad' 0 0 = ad 0 0 ∧ qLW G es A (qfAa σ s0 r0 P w0 g0 n0 h0) ad' H) A) 24 14000 A := by
  refine q_ofWH (cc := cL_alert) (maxL := 4) (ret := (some .int)) (hh := [(0, 38, 39, 21), (0, 38, 44, 23)]) (by decide) rfl ?_
  intro p e s m args below meth c s₁ B hml htab hv
  obtain ⟨rfl, hC, hW, hZ, hA, hT, hN, hat⟩ := hv
  have hx := B.exec
  have hb := B.bytes
  have hr := B.returns
  have hts := atoms_spec (ws := wsL_alert) B.pre
  have hown : s.vm.findClass RL = some m.cls := findClass_of_methodNamed B.named
  have hlocks := B.notSynchronized
  have hF := hv.1.wf
  have hn := hF.n
  obtain ⟨hl1, hl2, hl3⟩ := l_num hv
  have hc2 := (l_cap hv 2).1
  have hc3 := (l_cap hv 3).1
  have hroom : 22 + qcap (σ 0 2) (σ 32 2) + qcap (σ 0 3) (σ 32 3) ≤ 14000 := by omega
  have hS : va_S A s.heap s.heap [] := va_S.rf
  have hl := lv_entry ([.ref (ad 0 0), .ref (za), .int (nI t0)]) (n := 4) (Nat.le_of_ble_eq_true rfl)
  rw [lg_entry_eq]
  generalize (lg_sl ([.ref (ad 0 0), .ref (za), .int (nI t0)]) ++ List.replicate (4 - (lg_sl ([.ref (ad 0 0), .ref (za), .int (nI t0)])).length) Slot.unset).toArray = ls at hl ⊢
  have hl : lv_has ls 4 [(0, .ref (ad 0 0)), (1, .ref (za)), (2, .int (nI t0))] := hl
  refine lv_aload_n hx hb dL_alert_0 rfl (lv_at hl 0 rfl) ?_
  refine lv_aload_n hx hb dL_alert_1 rfl (lv_at hl 1 rfl) ?_
  refine lv_iload_n hx hb dL_alert_2 rfl (lv_at hl 2 rfl) ?_
  refine r_iald hx hb hC.1 hat 1 rfl (i := t0) (by omega) (by decide) (v := nI s0) f0 dL_alert_3 ?_
  refine lv_aload_n hx hb dL_alert_4 rfl (lv_at hl 1 rfl) ?_
  refine lv_iload_n hx hb dL_alert_5 rfl (lv_at hl 2 rfl) ?_
  refine lv_iconst (v := nI 1) hx hb dL_alert_6 (by decide) ?_
  refine lv_iadd hx hb dL_alert_7 ?_
  refine q_ti (nI_add t0 1) ?_
  refine r_iald hx hb hC.1 hat 1 rfl (i := (t0 + 1)) (by omega) (by decide) (v := nI r0) f1 dL_alert_8 ?_
  refine lv_aload_n hx hb dL_alert_9 rfl (lv_at hl 1 rfl) ?_
  refine lv_iload_n hx hb dL_alert_10 rfl (lv_at hl 2 rfl) ?_
  refine lv_iconst (v := nI 2) hx hb dL_alert_11 (by decide) ?_
  refine lv_iadd hx hb dL_alert_12 ?_
  refine q_ti (nI_add t0 2) ?_
  refine r_iald hx hb hC.1 hat 1 rfl (i := (t0 + 2)) (by omega) (by decide) (v := nI P - 1) f2 dL_alert_13 ?_
  refine lv_aload_n hx hb dL_alert_14 rfl (lv_at hl 1 rfl) ?_
  refine lv_iload_n hx hb dL_alert_15 rfl (lv_at hl 2 rfl) ?_
  refine lv_iconst (v := nI 3) hx hb dL_alert_16 (by decide) ?_
  refine lv_iadd hx hb dL_alert_17 ?_
  refine q_ti (nI_add t0 3) ?_
  refine r_iald hx hb hC.1 hat 1 rfl (i := (t0 + 3)) (by omega) (by decide) (v := nI w0) f3 dL_alert_18 ?_
  refine lv_aload_n hx hb dL_alert_19 rfl (lv_at hl 1 rfl) ?_
  refine lv_iload_n hx hb dL_alert_20 rfl (lv_at hl 2 rfl) ?_
  refine lv_iconst (v := nI 4) hx hb dL_alert_21 (by decide) ?_
  refine lv_iadd hx hb dL_alert_22 ?_
  refine q_ti (nI_add t0 4) ?_
  refine r_iald hx hb hC.1 hat 1 rfl (i := (t0 + 4)) (by omega) (by decide) (v := nI g0) f4 dL_alert_23 ?_
  refine lv_aload_n hx hb dL_alert_24 rfl (lv_at hl 1 rfl) ?_
  refine lv_iload_n hx hb dL_alert_25 rfl (lv_at hl 2 rfl) ?_
  refine lv_iconst (v := nI 5) hx hb dL_alert_26 (by decide) ?_
  refine lv_iadd hx hb dL_alert_27 ?_
  refine q_ti (nI_add t0 5) ?_
  refine r_iald hx hb hC.1 hat 1 rfl (i := (t0 + 5)) (by omega) (by decide) (v := nI n0) f5 dL_alert_28 ?_
  refine lv_aload_n hx hb dL_alert_29 rfl (lv_at hl 1 rfl) ?_
  refine lv_iload_n hx hb dL_alert_30 rfl (lv_at hl 2 rfl) ?_
  refine lv_bipush (v := nI 6) hx hb dL_alert_31 (by decide) ?_
  refine lv_iadd hx hb dL_alert_33 ?_
  refine q_ti (nI_add t0 6) ?_
  refine r_iald hx hb hC.1 hat 1 rfl (i := (t0 + 6)) (by omega) (by decide) (v := nI h0) f6 dL_alert_34 ?_
  refine q_wv (va_runV (As := [.int (nI s0), .int (nI r0), .int (nI P - 1), .int (nI w0), .int (nI g0), .int (nI n0), .int (nI h0)]) (rest := []) ⟨hx, hb, hml, hown, hts⟩ (m_addAlert l G es A σ ad hF s0 r0 P w0 g0 n0 h0 hs0 hr0 hP hw0 hg0 hn0 hh0 hn2 (by omega) (l_16 hv (by decide)) (l_16 hv (by decide)) hv.1.io.1 (l_70 hv) (qcap (σ 0 2) (σ 32 2)) (qcap (σ 0 3) (σ 32 3)) (Or.inr (Nat.le_refl _)) (Or.inr (Nat.le_refl _))) (cwV 7 hts gL_alert_X7_addAlert rfl rfl rfl (by decide +kernel) ⟨Nat.le_of_ble_eq_true rfl, Nat.le_of_ble_eq_true rfl⟩) ⟨qW.blind, qrecv hC (hW.to qLV0) rfl, qW.pre hC hW hZ (va_S.rf (A := A)) (fun _ h => h) hA⟩ rfl rfl hl.1 rfl (lv_room (Nat.le_of_ble_eq_true rfl)) dL_alert_35 ⟨Nat.le_of_ble_eq_true rfl, Nat.le_trans (Nat.le_of_eq (Nat.zero_add _)) hroom⟩) hS (fun _ h => h) (fun _ h => h) (fun H1 locs hP9 hz hk hS => ?_)
  obtain ⟨ad', hAE, hW2⟩ := hP9
  refine W.widen (k := 24) (n := 14000) (Nat.le_of_ble_eq_true rfl) (Nat.le_trans (Nat.le_of_eq (Nat.zero_add _)) hroom) ?_
  exact W.iret hx hb hr (fun t ht _ => ⟨rfl, by rw [ht]; exact ⟨ad', hAE 0 0 (by decide) (fun z => absurd z (by decide)), hW2⟩, hS.F ht⟩) hS.2.2 dL_alert_38
set_option maxHeartbeats 4000000 in
set_option maxRecDepth 100000 in
theorem kx_alert (l : Launch) (hst : l.stackTraces = false) (G : QG) (es : Nat) (A : Nat → Prop) (σ ad : QSt) (hv : zIv σ) (hj : jI σ) (s0 r0 P w0 g0 n0 h0 t0 za : Nat) (hs0 : s0 < 4) (hr0 : r0 < 5) (hP : P ≤ 3) (hw0 : w0 < 100) (hg0 : 1 ≤ g0 ∧ g0 ≤ 9) (hn0 : 1 ≤ n0 ∧ n0 ≤ 50) (hh0 : h0 ≤ 20) (ht0 : t0 ≤ 42) (af : Nat → Int32) (f0 : af t0 = nI s0) (f1 : af (t0 + 1) = nI r0) (f2 : af (t0 + 2) = nI P - 1) (f3 : af (t0 + 3) = nI w0) (f4 : af (t0 + 4) = nI g0) (f5 : af (t0 + 5) = nI n0) (f6 : af (t0 + 6) = nI h0) (hn2 : σ 0 2 = 6) : Met l yL_alert wsL_alert ({ frames := 7, cells := 1, slots := 6, locals := 112 } : Room) (qLg G es A σ ad za (.inl (G.2 1, 49, .inl af)) [.ref (ad 0 0), .ref (za), .int (nI t0)]) (qAP (some (.int (-2003)))) 1 6 A := by
  refine q_ofWH (cc := cL_alert) (maxL := 4) (ret := (some .int)) (hh := [(0, 38, 39, 21), (0, 38, 44, 23)]) (by decide) rfl ?_
  intro p e s m args below meth c s₁ B hml htab hv
  obtain ⟨rfl, hC, hW, hZ, hA, hT, hN, hat⟩ := hv
  have hx := B.exec
  have hb := B.bytes
  have hr := B.returns
  have hts := atoms_spec (ws := wsL_alert) B.pre
  have hown : s.vm.findClass RL = some m.cls := findClass_of_methodNamed B.named
  have hlocks := B.notSynchronized
  have hF := hv.1.wf
  have hS : va_S A s.heap s.heap [] := va_S.rf
  have hl := lv_entry ([.ref (ad 0 0), .ref (za), .int (nI t0)]) (n := 4) (Nat.le_of_ble_eq_true rfl)
  rw [lg_entry_eq]
  generalize (lg_sl ([.ref (ad 0 0), .ref (za), .int (nI t0)]) ++ List.replicate (4 - (lg_sl ([.ref (ad 0 0), .ref (za), .int (nI t0)])).length) Slot.unset).toArray = ls at hl ⊢
  have hl : lv_has ls 4 [(0, .ref (ad 0 0)), (1, .ref (za)), (2, .int (nI t0))] := hl
  refine lv_aload_n hx hb dL_alert_0 rfl (lv_at hl 0 rfl) ?_
  refine lv_aload_n hx hb dL_alert_1 rfl (lv_at hl 1 rfl) ?_
  refine lv_iload_n hx hb dL_alert_2 rfl (lv_at hl 2 rfl) ?_
  refine r_iald hx hb hC.1 hat 1 rfl (i := t0) (by omega) (by decide) (v := nI s0) f0 dL_alert_3 ?_
  refine lv_aload_n hx hb dL_alert_4 rfl (lv_at hl 1 rfl) ?_
  refine lv_iload_n hx hb dL_alert_5 rfl (lv_at hl 2 rfl) ?_
  refine lv_iconst (v := nI 1) hx hb dL_alert_6 (by decide) ?_
  refine lv_iadd hx hb dL_alert_7 ?_
  refine q_ti (nI_add t0 1) ?_
  refine r_iald hx hb hC.1 hat 1 rfl (i := (t0 + 1)) (by omega) (by decide) (v := nI r0) f1 dL_alert_8 ?_
  refine lv_aload_n hx hb dL_alert_9 rfl (lv_at hl 1 rfl) ?_
  refine lv_iload_n hx hb dL_alert_10 rfl (lv_at hl 2 rfl) ?_
  refine lv_iconst (v := nI 2) hx hb dL_alert_11 (by decide) ?_
  refine lv_iadd hx hb dL_alert_12 ?_
  refine q_ti (nI_add t0 2) ?_
  refine r_iald hx hb hC.1 hat 1 rfl (i := (t0 + 2)) (by omega) (by decide) (v := nI P - 1) f2 dL_alert_13 ?_
  refine lv_aload_n hx hb dL_alert_14 rfl (lv_at hl 1 rfl) ?_
  refine lv_iload_n hx hb dL_alert_15 rfl (lv_at hl 2 rfl) ?_
  refine lv_iconst (v := nI 3) hx hb dL_alert_16 (by decide) ?_
  refine lv_iadd hx hb dL_alert_17 ?_
  refine q_ti (nI_add t0 3) ?_
  refine r_iald hx hb hC.1 hat 1 rfl (i := (t0 + 3)) (by omega) (by decide) (v := nI w0) f3 dL_alert_18 ?_
  refine lv_aload_n hx hb dL_alert_19 rfl (lv_at hl 1 rfl) ?_
  refine lv_iload_n hx hb dL_alert_20 rfl (lv_at hl 2 rfl) ?_
  refine lv_iconst (v := nI 4) hx hb dL_alert_21 (by decide) ?_
  refine lv_iadd hx hb dL_alert_22 ?_
  refine q_ti (nI_add t0 4) ?_
  refine r_iald hx hb hC.1 hat 1 rfl (i := (t0 + 4)) (by omega) (by decide) (v := nI g0) f4 dL_alert_23 ?_
  refine lv_aload_n hx hb dL_alert_24 rfl (lv_at hl 1 rfl) ?_
  refine lv_iload_n hx hb dL_alert_25 rfl (lv_at hl 2 rfl) ?_
  refine lv_iconst (v := nI 5) hx hb dL_alert_26 (by decide) ?_
  refine lv_iadd hx hb dL_alert_27 ?_
  refine q_ti (nI_add t0 5) ?_
  refine r_iald hx hb hC.1 hat 1 rfl (i := (t0 + 5)) (by omega) (by decide) (v := nI n0) f5 dL_alert_28 ?_
  refine lv_aload_n hx hb dL_alert_29 rfl (lv_at hl 1 rfl) ?_
  refine lv_iload_n hx hb dL_alert_30 rfl (lv_at hl 2 rfl) ?_
  refine lv_bipush (v := nI 6) hx hb dL_alert_31 (by decide) ?_
  refine lv_iadd hx hb dL_alert_33 ?_
  refine q_ti (nI_add t0 6) ?_
  refine r_iald hx hb hC.1 hat 1 rfl (i := (t0 + 6)) (by omega) (by decide) (v := nI h0) f6 dL_alert_34 ?_
  refine q_xcatch (D := A) (a := [(0, 38, 39, 21)]) (h := (0, 38, 44, 23)) (b := []) (vx_runV (As := [.int (nI s0), .int (nI r0), .int (nI P - 1), .int (nI w0), .int (nI g0), .int (nI n0), .int (nI h0)]) (rest := []) ⟨hx, hb, hml, hown, hts⟩ (x_addAlert2 l hst G es A σ ad hF s0 r0 P w0 g0 n0 h0 hs0 hr0 hP hw0 hg0 hn0 hh0 hn2) (cwV 7 hts gL_alert_X7_addAlert rfl rfl rfl (by decide +kernel) ⟨Nat.le_of_ble_eq_true rfl, Nat.le_of_ble_eq_true rfl⟩) ⟨qX.blind, qrecv hC (hW.to qLV0) rfl, qX.pre hC hW hZ hT⟩ rfl rfl hl.1 rfl (lv_room (Nat.le_of_ble_eq_true rfl)) dL_alert_35 ⟨Nat.le_of_ble_eq_true rfl, Nat.le_of_ble_eq_true rfl⟩) hS (fun _ h => h) hown htab rfl (List.forall_mem_cons.mpr ⟨⟨by decide, "java/lang/IllegalArgumentException", (hts (.classLink RL 21 "java/lang/IllegalArgumentException") (List.mem_of_getElem? (i := 1) (by decide +kernel))), hN ("java/lang/IllegalStateException", "java/lang/IllegalArgumentException") (by decide)⟩, (List.forall_mem_nil _)⟩) (by decide) (by decide) (hts (.classLink RL 23 "java/lang/IllegalStateException") (List.mem_of_getElem? (i := 2) (by decide +kernel))) (q_qw hC (by decide +kernel)) (fun H1 locs q9 hz hk hS => ?_)
  refine lv_astore_n (lv' := [(3, .ref (q9)), (0, .ref (ad 0 0)), (1, .ref (za)), (2, .int (nI t0))]) hx hb dL_alert_44 rfl hl (by decide) rfl (fun ls hl => ?_)
  refine lv_sipush (v := -2003) hx hb dL_alert_45 (by decide) ?_
  exact W.iret hx hb hr (fun t ht _ => ⟨rfl, by rw [ht]; exact ⟨hz, hk⟩⟩) hS.2.2 dL_alert_48
