set_option maxHeartbeats 4000000 in
set_option maxRecDepth 100000 in
theorem m_initFiring (l : Launch) (G : QG) (A : Nat → Prop) (sz a : Nat) (w0 : Nat) (x1 : Int32) (hA : ∀ q, sz ≤ q → A q) : Met l yX2_init wsX2_init ({ frames := 1, cells := 1, slots := 4, locals := 16 } : Room) (qK G A sz (a, .inr (5, [.null, .int (nI 0), .int (nI 0), .int (nI 0), .null])) [.ref (a), .ref (w0), .int (x1)]) (qWV none (fun H1 => va_at G.1 vwCl (a, .inr (5, [.ref (w0), .int (x1), .int (nI 0), .int (nI 0), .ref (sz)])) H1 ∧ va_at G.1 vwCl (sz, .inl (G.2 2, 4, .inr (.inl (fun _ => 0)))) H1) A) 1 4 A := by
  refine Met.ofW (cc := cX2_init) (maxL := 3) (ret := none) (by decide) rfl ?_
  intro p e s m args below meth c s₁ B hml hv
  obtain ⟨rfl, hC, hat, hAa, hsz⟩ := hv
  have hx := B.exec
  have hb := B.bytes
  have hr := B.returns
  have hts := atoms_spec (ws := wsX2_init) B.pre
  have hown : s.vm.findClass RX2 = some m.cls := findClass_of_methodNamed B.named
  have hlocks := B.notSynchronized
  have hin2 : meth.name = "<init>" := (name_of_methodNamed B.named B.method).1
  have hS : va_S A s.heap s.heap [] := va_S.rf
  have hl := lv_entry ([.ref (a), .ref (w0), .int (x1)]) (n := 3) (Nat.le_of_ble_eq_true rfl)
  rw [lg_entry_eq]
  generalize (lg_sl ([.ref (a), .ref (w0), .int (x1)]) ++ List.replicate (3 - (lg_sl ([.ref (a), .ref (w0), .int (x1)])).length) Slot.unset).toArray = ls at hl ⊢
  have hl : lv_has ls 3 [(0, .ref (a)), (1, .ref (w0)), (2, .int (x1))] := hl
  subst hsz
  have iRX2 : ∀ w ∈ wsX20, w ∈ wsX2_init := by decide +kernel
  refine lv_aload_n hx hb dX2_init_0 rfl (lv_at hl 0 rfl) ?_
  refine W.objInit hx hb hown (hts (.methodLink RX2 3 objectInit) (List.mem_of_getElem? (i := 1) (by decide +kernel))) (hts (.instanceMethod objectInit) (List.mem_of_getElem? (i := 2) (by decide +kernel))) (hts _ (List.mem_of_getElem? (i := 3) (by decide +kernel))) rfl (hl.1.trans hml.symm) rfl dX2_init_1 (Nat.le_of_ble_eq_true rfl) (Nat.le_of_ble_eq_true rfl) ?_
  refine lv_aload_n hx hb dX2_init_4 rfl (lv_at hl 0 rfl) ?_
  refine lv_iconst (v := nI 4) hx hb dX2_init_5 (by decide) ?_
  have hat0 := hat.lt
  refine q_newa (atype := .long) (ty := .long) (cA0 := G.2 2) hx hb (hts (.arrayClass .long) (List.mem_of_getElem? (i := 4) (by decide +kernel))) rfl hC.1 2 rfl (fun C z => by cases z) hS (n := nI 4) (N' := 4) (4, .inr (.inl (fun _ => 0))) (fun cA => (vp_cell_l cA 4 _).trans (congrArg (arrV cA 4) (funext fun _ => rfl))) (nI_pos (by decide)) (nI_clamp (by decide)) (by show 4 * 8 ≤ 536870912; omega) (by show 0 + 1 ≤ 1; omega) (by show 0 + 4 ≤ 4; omega) dX2_init_6 (fun H haq hz hko hS => ?_)
  have hat := hat.kept (hko a hat0)
  have hqa : s.heap.size ≠ a := Nat.ne_of_gt hat0
  refine q_putF (C := RX2) (T := TX2) (N := 5) (ty := .array .long) (v := .ref (s.heap.size)) hx hb hts iRX2 tyX2 tyX2_ok nmX2 hown hC.1 hat hAa hS rfl 4 (by decide) (hts (.fieldLink RX2 9 "LogWeave$Firing" "onLines" "[J") (List.mem_of_getElem? (i := 5) (by decide +kernel))) rfl rfl hin2 rfl (by decide +kernel) rfl rfl (Nat.le_of_ble_eq_true rfl) dX2_init_8 (fun H locs hat hz1 hoq hS => ?_)
  have haq := haq.kept (hoq s.heap.size hqa)
  have hat : va_at G.1 vwCl (a, .inr (5, [.null, .int (nI 0), .int (nI 0), .int (nI 0), .ref (s.heap.size)])) H := hat
  refine lv_aload_n hx hb dX2_init_11 rfl (lv_at hl 0 rfl) ?_
  refine lv_aload_n hx hb dX2_init_12 rfl (lv_at hl 1 rfl) ?_
  refine q_putF (C := RX2) (T := TX2) (N := 5) (ty := .object "LogWeave$Alert") (v := .ref (w0)) hx hb hts iRX2 tyX2 tyX2_ok nmX2 hown hC.1 hat hAa hS rfl 0 (by decide) (hts (.fieldLink RX2 15 "LogWeave$Firing" "alert" "LLogWeave$Alert;") (List.mem_of_getElem? (i := 6) (by decide +kernel))) rfl rfl hin2 rfl (by decide +kernel) rfl rfl (Nat.le_of_ble_eq_true rfl) dX2_init_13 (fun H locs hat hz1 hoq hS => ?_)
  have haq := haq.kept (hoq s.heap.size hqa)
  have hat : va_at G.1 vwCl (a, .inr (5, [.ref (w0), .int (nI 0), .int (nI 0), .int (nI 0), .ref (s.heap.size)])) H := hat
  refine lv_aload_n hx hb dX2_init_16 rfl (lv_at hl 0 rfl) ?_
  refine lv_iload_n hx hb dX2_init_17 rfl (lv_at hl 2 rfl) ?_
  refine q_putF (C := RX2) (T := TX2) (N := 5) (ty := .int) (v := .int (x1)) hx hb hts iRX2 tyX2 tyX2_ok nmX2 hown hC.1 hat hAa hS rfl 1 (by decide) (hts (.fieldLink RX2 19 "LogWeave$Firing" "began" "I") (List.mem_of_getElem? (i := 7) (by decide +kernel))) rfl rfl hin2 rfl (by decide +kernel) rfl rfl (Nat.le_of_ble_eq_true rfl) dX2_init_18 (fun H locs hat hz1 hoq hS => ?_)
  have haq := haq.kept (hoq s.heap.size hqa)
  have hat : va_at G.1 vwCl (a, .inr (5, [.ref (w0), .int (x1), .int (nI 0), .int (nI 0), .ref (s.heap.size)])) H := hat
  exact W.vret hx hb hr (fun t ht _ => ⟨rfl, by rw [ht]; exact ⟨hat, haq⟩, hS.F ht⟩) hS.2.2 dX2_init_21
def qKz (G : QG) (es : Nat) (A : Nat → Prop) (sz : Nat) (x : Nat × va_E) (av : List Value) : Array Value → State → Prop := va_Pc av (fun U => qCX G U ∧ va_at G.1 vwCl x U.heap ∧ A x.1 ∧ U.heap.size = sz ∧ qSZ es A U U.heap)
theorem qKz.blind {G : QG} {es : Nat} {A : Nat → Prop} {sz : Nat} {x : Nat × va_E} {av : List Value} : FrameBlind (qKz G es A sz x av) := fun _ _ _ _ q => ⟨q.1, q.2.1.blind, q.2.2.1, q.2.2.2.1, q.2.2.2.2.1, q.2.2.2.2.2.blind⟩
theorem qKz.pre {G : QG} {es : Nat} {A A0 : Nat → Prop} {sz : Nat} {x : Nat × va_E} {av : List Value} {s : State} {H : Heap} {locs : List Loc} (hC : qCX G s) (hx : va_at G.1 vwCl x H) (hA : A x.1) (hz : H.size = sz) (hZ : qSZ es A0 s s.heap) (hS : va_S A0 s.heap H locs) (hAA : ∀ q, A q → A0 q) : ∀ U : State, U.heap = H → s.WarmedH U.vm → qKz G es A sz x av av.toArray U := fun U hU hW => ⟨rfl, hC.warm hW, by rw [hU]; exact hx, hA, by rw [hU]; exact hz, by rw [hU]; exact ((hZ.kept hS.2.1).narrow hAA).moved hW.alike⟩
set_option maxHeartbeats 4000000 in
set_option maxRecDepth 100000 in
theorem m_initL1 (l : Launch) (G : QG) (es : Nat) (A : Nat → Prop) (sz a : Nat) : Met l yJxa1e45_init_da8c8 wsJxa1e45_init_da8c8 ({ frames := 1, cells := 0, slots := 0, locals := 16 } : Room) (qK G A sz (a, .inr (2, [.int (nI 0), .null, .int (nI 0)])) [.ref (a)]) (qWV none (fun H1 => va_at G.1 vwCl (a, .inr (2, [.int (nI 0), .null, .int (nI 0)])) H1) A) 0 0 A := by
  refine Met.ofW (cc := cJxa1e45_init_da8c8) (maxL := 1) (ret := none) (by decide) rfl ?_
  intro p e s m args below meth c s₁ B hml hv
  obtain ⟨rfl, hC, hat, hAa, hsz⟩ := hv
  have hx := B.exec
  have hb := B.bytes
  have hr := B.returns
  have hts := atoms_spec (ws := wsJxa1e45_init_da8c8) B.pre
  have hown : s.vm.findClass RJxa1e45 = some m.cls := findClass_of_methodNamed B.named
  have hlocks := B.notSynchronized
  have hin2 : meth.name = "<init>" := (name_of_methodNamed B.named B.method).1
  have hS : va_S A s.heap s.heap [] := va_S.rf
  have hl := lv_entry ([.ref (a)]) (n := 1) (Nat.le_of_ble_eq_true rfl)
  rw [lg_entry_eq]
  generalize (lg_sl ([.ref (a)]) ++ List.replicate (1 - (lg_sl ([.ref (a)])).length) Slot.unset).toArray = ls at hl ⊢
  have hl : lv_has ls 1 [(0, .ref (a))] := hl
  refine lv_aload_n hx hb dJxa1e45_init_da8c8_0 rfl (lv_at hl 0 rfl) ?_
  refine W.objInit hx hb hown (hts (.methodLink RJxa1e45 1 objectInit) (List.mem_of_getElem? (i := 1) (by decide +kernel))) (hts (.instanceMethod objectInit) (List.mem_of_getElem? (i := 2) (by decide +kernel))) (hts _ (List.mem_of_getElem? (i := 3) (by decide +kernel))) rfl (hl.1.trans hml.symm) rfl dJxa1e45_init_da8c8_1 (Nat.le_of_ble_eq_true rfl) (Nat.le_of_ble_eq_true rfl) ?_
  exact W.vret hx hb hr (fun t ht _ => ⟨rfl, by rw [ht]; exact hat, hS.F ht⟩) hS.2.2 dJxa1e45_init_da8c8_4
set_option maxHeartbeats 4000000 in
set_option maxRecDepth 100000 in
theorem m_initL2 (l : Launch) (G : QG) (es : Nat) (A : Nat → Prop) (sz a : Nat) : Met l yJxc12de_init_da8c8 wsJxc12de_init_da8c8 ({ frames := 2, cells := 0, slots := 0, locals := 36 } : Room) (qK G A sz (a, .inr (2, [.int (nI 0), .null, .int (nI 0)])) [.ref (a)]) (qWV none (fun H1 => va_at G.1 vwCl (a, .inr (2, [.int (nI 0), .null, .int (nI 0)])) H1) A) 0 0 A := by
  refine Met.ofW (cc := cJxc12de_init_da8c8) (maxL := 1) (ret := none) (by decide) rfl ?_
  intro p e s m args below meth c s₁ B hml hv
  obtain ⟨rfl, hC, hat, hAa, hsz⟩ := hv
  have hx := B.exec
  have hb := B.bytes
  have hr := B.returns
  have hts := atoms_spec (ws := wsJxc12de_init_da8c8) B.pre
  have hown : s.vm.findClass RJxc12de = some m.cls := findClass_of_methodNamed B.named
  have hlocks := B.notSynchronized
  have hin2 : meth.name = "<init>" := (name_of_methodNamed B.named B.method).1
  have hS : va_S A s.heap s.heap [] := va_S.rf
  have hl := lv_entry ([.ref (a)]) (n := 1) (Nat.le_of_ble_eq_true rfl)
  rw [lg_entry_eq]
  generalize (lg_sl ([.ref (a)]) ++ List.replicate (1 - (lg_sl ([.ref (a)])).length) Slot.unset).toArray = ls at hl ⊢
  have hl : lv_has ls 1 [(0, .ref (a))] := hl
  have iRJx4a65c : ∀ w ∈ wsJx4a65c0, w ∈ wsJxc12de_init_da8c8 := by decide +kernel
  refine lv_aload_n hx hb dJxc12de_init_da8c8_0 rfl (lv_at hl 0 rfl) ?_
  refine q_wn (va_runI (As := []) (rest := []) ⟨hx, hb, hml, hown, hts⟩ (m_initL1 l G es A sz a) (cwI 0 hts gJxc12de_init_da8c8_Jxa1e45_init_da8c8 rfl rfl rfl (hts (.initialized RJxa1e45) (List.mem_of_getElem? (i := 4) (by decide +kernel))) (hts (.methodLink RJxc12de 1 yJxa1e45_init_da8c8) (List.mem_of_getElem? (i := 2) (by decide +kernel))) (hts (.instanceMethod yJxa1e45_init_da8c8) (List.mem_of_getElem? (i := 3) (by decide +kernel))) rfl (by decide +kernel) ⟨Nat.le_of_ble_eq_true rfl, Nat.le_of_ble_eq_true rfl⟩) ⟨qK.blind, qK.pre hC hat hAa hsz⟩ rfl rfl hl.1 rfl (lv_room (Nat.le_of_ble_eq_true rfl)) dJxc12de_init_da8c8_1 ⟨Nat.le_of_ble_eq_true rfl, Nat.le_of_ble_eq_true rfl⟩) hS (fun _ h => h) (fun _ h => h) (fun H locs hat hz hk hS => ?_)
  refine lv_aload_n hx hb dJxc12de_init_da8c8_4 rfl (lv_at hl 0 rfl) ?_
  refine lv_iconst (v := nI 0) hx hb dJxc12de_init_da8c8_5 (by decide) ?_
  refine va_put (D := G.1) (ci := 2) (v := .int (nI 0)) (ty := .int) (C := RJx4a65c) (T := TJx4a65c) (N := 3) hx hb hts iRJx4a65c tyJx4a65c tyJx4a65c_ok nmJx4a65c hown hC.1 (va_P1 hat) (q_D1 hAa) hS 0 rfl rfl 0 (by decide) (hts (.fieldLink RJxc12de 7 "java/util/AbstractList" "modCount" "I") (List.mem_of_getElem? (i := 1) (by decide +kernel))) (fun _ h9 => h9) rfl (by decide +kernel) rfl rfl (Nat.le_of_ble_eq_true rfl) dJxc12de_init_da8c8_6 (fun H locs hP hD hS => ?_)
  have hat : va_at G.1 vwCl (a, .inr (2, [.int (nI 0), .null, .int (nI 0)])) H := hP 0 _ rfl
  exact W.vret hx hb hr (fun t ht _ => ⟨rfl, by rw [ht]; exact hat, hS.F ht⟩) hS.2.2 dJxc12de_init_da8c8_9
set_option maxHeartbeats 4000000 in
set_option maxRecDepth 100000 in
theorem m_initL3 (l : Launch) (G : QG) (es : Nat) (A : Nat → Prop) (sz a : Nat) : Met l yJx4a65c_init_da8c8 wsJx4a65c_init_da8c8 ({ frames := 3, cells := 0, slots := 0, locals := 56 } : Room) (qKz G es A sz (a, .inr (2, [.int (nI 0), .null, .int (nI 0)])) [.ref (a)]) (qWV none (fun H1 => va_at G.1 vwCl (a, .inr (2, [.int (nI 0), .ref es, .int (nI 0)])) H1) A) 0 0 A := by
  refine Met.ofW (cc := cJx4a65c_init_da8c8) (maxL := 1) (ret := none) (by decide) rfl ?_
  intro p e s m args below meth c s₁ B hml hv
  obtain ⟨rfl, hC, hat, hAa, hsz, hZ⟩ := hv
  have hx := B.exec
  have hb := B.bytes
  have hr := B.returns
  have hts := atoms_spec (ws := wsJx4a65c_init_da8c8) B.pre
  have hown : s.vm.findClass RJx4a65c = some m.cls := findClass_of_methodNamed B.named
  have hlocks := B.notSynchronized
  have hin2 : meth.name = "<init>" := (name_of_methodNamed B.named B.method).1
  have hS : va_S A s.heap s.heap [] := va_S.rf
  have hl := lv_entry ([.ref (a)]) (n := 1) (Nat.le_of_ble_eq_true rfl)
  rw [lg_entry_eq]
  generalize (lg_sl ([.ref (a)]) ++ List.replicate (1 - (lg_sl ([.ref (a)])).length) Slot.unset).toArray = ls at hl ⊢
  have hl : lv_has ls 1 [(0, .ref (a))] := hl
  have iRJx4a65c : ∀ w ∈ wsJx4a65c0, w ∈ wsJx4a65c_init_da8c8 := by decide +kernel
  refine lv_aload_n hx hb dJx4a65c_init_da8c8_0 rfl (lv_at hl 0 rfl) ?_
  refine q_wn (va_runI (As := []) (rest := []) ⟨hx, hb, hml, hown, hts⟩ (m_initL2 l G es A sz a) (cwI 0 hts gJx4a65c_init_da8c8_Jxc12de_init_da8c8 rfl rfl rfl (hts (.initialized RJxc12de) (List.mem_of_getElem? (i := 5) (by decide +kernel))) (hts (.methodLink RJx4a65c 1 yJxc12de_init_da8c8) (List.mem_of_getElem? (i := 3) (by decide +kernel))) (hts (.instanceMethod yJxc12de_init_da8c8) (List.mem_of_getElem? (i := 4) (by decide +kernel))) rfl (by decide +kernel) ⟨Nat.le_of_ble_eq_true rfl, Nat.le_of_ble_eq_true rfl⟩) ⟨qK.blind, qK.pre hC hat hAa hsz⟩ rfl rfl hl.1 rfl (lv_room (Nat.le_of_ble_eq_true rfl)) dJx4a65c_init_da8c8_1 ⟨Nat.le_of_ble_eq_true rfl, Nat.le_of_ble_eq_true rfl⟩) hS (fun _ h => h) (fun _ h => h) (fun H locs hat hz hk hS => ?_)
  refine lv_aload_n hx hb dJx4a65c_init_da8c8_4 rfl (lv_at hl 0 rfl) ?_
  refine va_gets hx hb hZ.1 hS hown (hts (.fieldLink RJx4a65c 39 "java/util/ArrayList" "DEFAULTCAPACITY_EMPTY_ELEMENTDATA" "[Ljava/lang/Object;") (List.mem_of_getElem? (i := 1) (by decide +kernel))) (fun _ h9 => h9) dJx4a65c_init_da8c8_5 ?_
  refine va_put (D := G.1) (ci := 2) (v := .ref (es)) (ty := .array (.object "java/lang/Object")) (C := RJx4a65c) (T := TJx4a65c) (N := 3) hx hb hts iRJx4a65c tyJx4a65c tyJx4a65c_ok nmJx4a65c hown hC.1 (va_P1 hat) (q_D1 hAa) hS 0 rfl rfl 1 (by decide) (hts (.fieldLink RJx4a65c 9 "java/util/ArrayList" "elementData" "[Ljava/lang/Object;") (List.mem_of_getElem? (i := 2) (by decide +kernel))) (fun _ h9 => h9) rfl (by decide +kernel) rfl rfl (Nat.le_of_ble_eq_true rfl) dJx4a65c_init_da8c8_8 (fun H locs hP hD hS => ?_)
  have hat : va_at G.1 vwCl (a, .inr (2, [.int (nI 0), .ref es, .int (nI 0)])) H := hP 0 _ rfl
  exact W.vret hx hb hr (fun t ht _ => ⟨rfl, by rw [ht]; exact hat, hS.F ht⟩) hS.2.2 dJx4a65c_init_da8c8_11
