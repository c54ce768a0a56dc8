set_option maxHeartbeats 4000000 in
set_option maxRecDepth 100000 in
theorem m_addG (l : Launch) (G : QG) (es : Nat) (A : Nat → Prop) (a E n sz mi mm : Nat) (g : Nat → Option Nat) (hn : 2 ≤ n) (hn2 : n ≤ 4000) (ci : Nat) (r : vw_C) (hci : vwCl[ci]? = some r) (hca : Cond.castable r.1 "java/lang/Object" ∈ qwords) (v : Nat) (vs : List Value) (hvA : ¬ A v) (ms : Nat) (hms : (n + n / 2) ≤ ms) : Met l yJx4a65c_add_9ea2d wsJx4a65c_add_9ea2d ({ frames := 6, cells := 1, slots := ms, locals := 150 } : Room) (qAd G es A [(a, .inr (2, [.int (nI mm), .ref E, .int (nI n)])), (E, .inl (G.2 0, n, .inr (.inr (.inr (.inr (g))))))] [(v, .inr (ci, vs))] sz ci mi g [.ref (a), .ref (v)]) (qWV (some (.int (nI 1))) (fun H1 => ∃ q : Nat, va_P G.1 vwCl [(a, .inr (2, [.int (nI (mm + 1)), .ref q, .int (nI (n + 1))])), (q, .inl (G.2 0, (n + n / 2), .inr (.inr (.inr (.inr (va_up (va_cpy g (fun _ => none) 0 0 n) n (some v)))))))] H1 ∧ va_D A [(a, .inr (2, [.int (nI (mm + 1)), .ref q, .int (nI (n + 1))])), (q, .inl (G.2 0, (n + n / 2), .inr (.inr (.inr (.inr (va_up (va_cpy g (fun _ => none) 0 0 n) n (some v)))))))]) A) 1 ms A := by
  refine Met.ofW (cc := cJx4a65c_add_9ea2d) (maxL := 2) (ret := (some .boolean)) (by decide) rfl ?_
  intro p e s m args below meth c s₁ B hml hv
  obtain ⟨rfl, hC, hP, hD, hY, hZ, hA, hsz, hE, hM⟩ := hv
  have hx := B.exec
  have hb := B.bytes
  have hr := B.returns
  have hts := atoms_spec (ws := wsJx4a65c_add_9ea2d) B.pre
  have hown : s.vm.findClass RJx4a65c = some m.cls := findClass_of_methodNamed B.named
  have hlocks := B.notSynchronized
  have hS : va_S A s.heap s.heap [] := va_S.rf
  have hl := lv_entry ([.ref (a), .ref (v)]) (n := 2) (Nat.le_of_ble_eq_true rfl)
  rw [lg_entry_eq]
  generalize (lg_sl ([.ref (a), .ref (v)]) ++ List.replicate (2 - (lg_sl ([.ref (a), .ref (v)])).length) Slot.unset).toArray = ls at hl ⊢
  have hl : lv_has ls 2 [(0, .ref (a)), (1, .ref (v))] := hl
  subst hsz
  have iRJx4a65c : ∀ w ∈ wsJx4a65c0, w ∈ wsJx4a65c_add_9ea2d := by decide +kernel
  refine lv_aload_n hx hb dJx4a65c_add_9ea2d_0 rfl (lv_at hl 0 rfl) ?_
  refine lv_dup hx hb dJx4a65c_add_9ea2d_1 rfl ?_
  refine va_get (D := G.1) (ci := 2) (v := .int (nI mm)) (C := RJx4a65c) (T := TJx4a65c) (N := 3) hx hb hts iRJx4a65c hown hC.1 hP 0 rfl rfl 0 (by decide) (hts (.fieldLink RJx4a65c 63 "java/util/ArrayList" "modCount" "I") (List.mem_of_getElem? (i := 1) (by decide +kernel))) (fun x9 h9 => u_same (hts (.sameField "java/util/ArrayList" "java/util/AbstractList" "modCount" "I") (List.mem_of_getElem? (i := 2) (by decide +kernel))) x9 h9) rfl dJx4a65c_add_9ea2d_2 ?_
  refine lv_iconst (v := nI 1) hx hb dJx4a65c_add_9ea2d_5 (by decide) ?_
  refine lv_iadd hx hb dJx4a65c_add_9ea2d_6 ?_
  refine q_ti (nI_add mm 1) ?_
  refine va_put (D := G.1) (ci := 2) (v := .int (nI (mm + 1))) (ty := .int) (C := RJx4a65c) (T := TJx4a65c) (N := 3) hx hb hts iRJx4a65c tyJx4a65c tyJx4a65c_ok nmJx4a65c hown hC.1 hP hD hS 0 rfl rfl 0 (by decide) (hts (.fieldLink RJx4a65c 63 "java/util/ArrayList" "modCount" "I") (List.mem_of_getElem? (i := 1) (by decide +kernel))) (fun x9 h9 => u_same (hts (.sameField "java/util/ArrayList" "java/util/AbstractList" "modCount" "I") (List.mem_of_getElem? (i := 2) (by decide +kernel))) x9 h9) rfl (by decide +kernel) rfl rfl (Nat.le_of_ble_eq_true rfl) dJx4a65c_add_9ea2d_7 (fun H locs hP hD hS => ?_)
  have hP : va_P G.1 vwCl [(a, .inr (2, [.int (nI (mm + 1)), .ref E, .int (nI n)])), (E, .inl (G.2 0, n, .inr (.inr (.inr (.inr (g))))))] H := hP
  have hD : va_D A [(a, .inr (2, [.int (nI (mm + 1)), .ref E, .int (nI n)])), (E, .inl (G.2 0, n, .inr (.inr (.inr (.inr (g))))))] := hD
  have hYv := fun z : ¬ A v => (hY 0 _ rfl).kept (hS.2.1 v (hY 0 _ rfl).lt z)
  have hYv : va_P G.1 vwCl [(v, .inr (ci, vs))] H := va_P1 (hYv hvA)
  have hE2 : ∀ i y, g i = some y → ¬ A y ∧ ∃ fs, va_at G.1 vwCl (y, .inr (ci, fs)) H := fun i y hy => ⟨(hE i y hy).1, (hE i y hy).2.elim (fun fs h => ⟨fs, h.kept (hS.2.1 y h.lt (hE i y hy).1)⟩)⟩
  refine lv_aload_n hx hb dJx4a65c_add_9ea2d_10 rfl (lv_at hl 0 rfl) ?_
  refine lv_aload_n hx hb dJx4a65c_add_9ea2d_11 rfl (lv_at hl 1 rfl) ?_
  refine lv_aload_n hx hb dJx4a65c_add_9ea2d_12 rfl (lv_at hl 0 rfl) ?_
  refine va_get (D := G.1) (ci := 2) (v := .ref (E)) (C := RJx4a65c) (T := TJx4a65c) (N := 3) hx hb hts iRJx4a65c hown hC.1 hP 0 rfl rfl 1 (by decide) (hts (.fieldLink RJx4a65c 9 "java/util/ArrayList" "elementData" "[Ljava/lang/Object;") (List.mem_of_getElem? (i := 3) (by decide +kernel))) (fun _ h9 => h9) rfl dJx4a65c_add_9ea2d_13 ?_
  refine lv_aload_n hx hb dJx4a65c_add_9ea2d_16 rfl (lv_at hl 0 rfl) ?_
  refine va_get (D := G.1) (ci := 2) (v := .int (nI n)) (C := RJx4a65c) (T := TJx4a65c) (N := 3) hx hb hts iRJx4a65c hown hC.1 hP 0 rfl rfl 2 (by decide) (hts (.fieldLink RJx4a65c 48 "java/util/ArrayList" "size" "I") (List.mem_of_getElem? (i := 4) (by decide +kernel))) (fun _ h9 => h9) rfl dJx4a65c_add_9ea2d_17 ?_
  refine q_wn (va_runV (As := [.ref (v), .ref (E), .int (nI n)]) (rest := []) ⟨hx, hb, hml, hown, hts⟩ (m_add3G l G es A a E n H.size mi (mm + 1) g hn hn2 ci r hci hca v vs hvA) (cwV 3 hts gJx4a65c_add_9ea2d_Jx4a65c_add_72be8 rfl rfl rfl (by decide +kernel) ⟨Nat.le_of_ble_eq_true rfl, Nat.le_of_ble_eq_true rfl⟩) ⟨qAd.blind, qrecv hC (hP 0 _ rfl) rfl, qAd.pre hC hP hD hYv hZ hS (fun _ h => h) (fun q h => hA q (Nat.le_trans hS.1 h)) rfl hE2 hM⟩ rfl rfl hl.1 rfl (lv_room (Nat.le_of_ble_eq_true rfl)) dJx4a65c_add_9ea2d_20 ⟨by show 0 + 1 ≤ 1; omega, by show 0 + (n + n / 2) ≤ ms; omega⟩) hS (fun _ h => h) (fun _ h => h) (fun H locs hB hz hk hS => ?_)
  obtain ⟨q, hB⟩ := hB
  refine lv_iconst (v := nI 1) hx hb dJx4a65c_add_9ea2d_23 (by decide) ?_
  refine W.widen (k := 1) (n := ms) (by omega) (by omega) ?_
  exact W.zret (v := nI 1) hx hb hr rfl (fun t ht _ => ⟨rfl, by rw [ht]; exact ⟨q, hB⟩, hS.F ht⟩) hS.2.2 dJx4a65c_add_9ea2d_24
set_option maxHeartbeats 4000000 in
set_option maxRecDepth 100000 in
theorem m_addF (l : Launch) (G : QG) (es : Nat) (A : Nat → Prop) (a sz mi mm : Nat) (ci : Nat) (r : vw_C) (hci : vwCl[ci]? = some r) (hca : Cond.castable r.1 "java/lang/Object" ∈ qwords) (v : Nat) (vs : List Value) (hvA : ¬ A v) (ms : Nat) (hms : 10 ≤ ms) : Met l yJx4a65c_add_9ea2d wsJx4a65c_add_9ea2d ({ frames := 6, cells := 1, slots := ms, locals := 150 } : Room) (qAd G es A [(a, .inr (2, [.int (nI mm), .ref es, .int (nI 0)]))] [(v, .inr (ci, vs))] sz ci mi (fun _ => none) [.ref (a), .ref (v)]) (qWV (some (.int (nI 1))) (fun H1 => ∃ q : Nat, va_P G.1 vwCl [(a, .inr (2, [.int (nI (mm + 1)), .ref q, .int (nI 1)])), (q, .inl (G.2 0, 10, .inr (.inr (.inr (.inr (va_up (fun _ => none) 0 (some v)))))))] H1 ∧ va_D A [(a, .inr (2, [.int (nI (mm + 1)), .ref q, .int (nI 1)])), (q, .inl (G.2 0, 10, .inr (.inr (.inr (.inr (va_up (fun _ => none) 0 (some v)))))))]) A) 1 ms A := by
  refine Met.ofW (cc := cJx4a65c_add_9ea2d) (maxL := 2) (ret := (some .boolean)) (by decide) rfl ?_
  intro p e s m args below meth c s₁ B hml hv
  obtain ⟨rfl, hC, hP, hD, hY, hZ, hA, hsz, hE, hM⟩ := hv
  have hx := B.exec
  have hb := B.bytes
  have hr := B.returns
  have hts := atoms_spec (ws := wsJx4a65c_add_9ea2d) B.pre
  have hown : s.vm.findClass RJx4a65c = some m.cls := findClass_of_methodNamed B.named
  have hlocks := B.notSynchronized
  have hS : va_S A s.heap s.heap [] := va_S.rf
  have hl := lv_entry ([.ref (a), .ref (v)]) (n := 2) (Nat.le_of_ble_eq_true rfl)
  rw [lg_entry_eq]
  generalize (lg_sl ([.ref (a), .ref (v)]) ++ List.replicate (2 - (lg_sl ([.ref (a), .ref (v)])).length) Slot.unset).toArray = ls at hl ⊢
  have hl : lv_has ls 2 [(0, .ref (a)), (1, .ref (v))] := hl
  subst hsz
  have iRJx4a65c : ∀ w ∈ wsJx4a65c0, w ∈ wsJx4a65c_add_9ea2d := by decide +kernel
  refine lv_aload_n hx hb dJx4a65c_add_9ea2d_0 rfl (lv_at hl 0 rfl) ?_
  refine lv_dup hx hb dJx4a65c_add_9ea2d_1 rfl ?_
  refine va_get (D := G.1) (ci := 2) (v := .int (nI mm)) (C := RJx4a65c) (T := TJx4a65c) (N := 3) hx hb hts iRJx4a65c hown hC.1 hP 0 rfl rfl 0 (by decide) (hts (.fieldLink RJx4a65c 63 "java/util/ArrayList" "modCount" "I") (List.mem_of_getElem? (i := 1) (by decide +kernel))) (fun x9 h9 => u_same (hts (.sameField "java/util/ArrayList" "java/util/AbstractList" "modCount" "I") (List.mem_of_getElem? (i := 2) (by decide +kernel))) x9 h9) rfl dJx4a65c_add_9ea2d_2 ?_
  refine lv_iconst (v := nI 1) hx hb dJx4a65c_add_9ea2d_5 (by decide) ?_
  refine lv_iadd hx hb dJx4a65c_add_9ea2d_6 ?_
  refine q_ti (nI_add mm 1) ?_
  refine va_put (D := G.1) (ci := 2) (v := .int (nI (mm + 1))) (ty := .int) (C := RJx4a65c) (T := TJx4a65c) (N := 3) hx hb hts iRJx4a65c tyJx4a65c tyJx4a65c_ok nmJx4a65c hown hC.1 hP hD hS 0 rfl rfl 0 (by decide) (hts (.fieldLink RJx4a65c 63 "java/util/ArrayList" "modCount" "I") (List.mem_of_getElem? (i := 1) (by decide +kernel))) (fun x9 h9 => u_same (hts (.sameField "java/util/ArrayList" "java/util/AbstractList" "modCount" "I") (List.mem_of_getElem? (i := 2) (by decide +kernel))) x9 h9) rfl (by decide +kernel) rfl rfl (Nat.le_of_ble_eq_true rfl) dJx4a65c_add_9ea2d_7 (fun H locs hP hD hS => ?_)
  have hP : va_P G.1 vwCl [(a, .inr (2, [.int (nI (mm + 1)), .ref es, .int (nI 0)]))] H := hP
  have hD : va_D A [(a, .inr (2, [.int (nI (mm + 1)), .ref es, .int (nI 0)]))] := hD
  have hYv := fun z : ¬ A v => (hY 0 _ rfl).kept (hS.2.1 v (hY 0 _ rfl).lt z)
  have hYv : va_P G.1 vwCl [(v, .inr (ci, vs))] H := va_P1 (hYv hvA)
  have hE2 : ∀ i y, (fun _ => none) i = some y → ¬ A y ∧ ∃ fs, va_at G.1 vwCl (y, .inr (ci, fs)) H := fun i y hy => ⟨(hE i y hy).1, (hE i y hy).2.elim (fun fs h => ⟨fs, h.kept (hS.2.1 y h.lt (hE i y hy).1)⟩)⟩
  refine lv_aload_n hx hb dJx4a65c_add_9ea2d_10 rfl (lv_at hl 0 rfl) ?_
  refine lv_aload_n hx hb dJx4a65c_add_9ea2d_11 rfl (lv_at hl 1 rfl) ?_
  refine lv_aload_n hx hb dJx4a65c_add_9ea2d_12 rfl (lv_at hl 0 rfl) ?_
  refine va_get (D := G.1) (ci := 2) (v := .ref (es)) (C := RJx4a65c) (T := TJx4a65c) (N := 3) hx hb hts iRJx4a65c hown hC.1 hP 0 rfl rfl 1 (by decide) (hts (.fieldLink RJx4a65c 9 "java/util/ArrayList" "elementData" "[Ljava/lang/Object;") (List.mem_of_getElem? (i := 3) (by decide +kernel))) (fun _ h9 => h9) rfl dJx4a65c_add_9ea2d_13 ?_
  refine lv_aload_n hx hb dJx4a65c_add_9ea2d_16 rfl (lv_at hl 0 rfl) ?_
  refine va_get (D := G.1) (ci := 2) (v := .int (nI 0)) (C := RJx4a65c) (T := TJx4a65c) (N := 3) hx hb hts iRJx4a65c hown hC.1 hP 0 rfl rfl 2 (by decide) (hts (.fieldLink RJx4a65c 48 "java/util/ArrayList" "size" "I") (List.mem_of_getElem? (i := 4) (by decide +kernel))) (fun _ h9 => h9) rfl dJx4a65c_add_9ea2d_17 ?_
  refine q_wn (va_runV (As := [.ref (v), .ref (es), .int (nI 0)]) (rest := []) ⟨hx, hb, hml, hown, hts⟩ (m_add3F l G es A a H.size mi (mm + 1) ci r hci hca v vs hvA) (cwV 3 hts gJx4a65c_add_9ea2d_Jx4a65c_add_72be8 rfl rfl rfl (by decide +kernel) ⟨Nat.le_of_ble_eq_true rfl, Nat.le_of_ble_eq_true rfl⟩) ⟨qAd.blind, qrecv hC (hP 0 _ rfl) rfl, qAd.pre hC hP hD hYv hZ hS (fun _ h => h) (fun q h => hA q (Nat.le_trans hS.1 h)) rfl hE2 hM⟩ rfl rfl hl.1 rfl (lv_room (Nat.le_of_ble_eq_true rfl)) dJx4a65c_add_9ea2d_20 ⟨by show 0 + 1 ≤ 1; omega, by show 0 + 10 ≤ ms; omega⟩) hS (fun _ h => h) (fun _ h => h) (fun H locs hB hz hk hS => ?_)
  obtain ⟨q, hB⟩ := hB
  refine lv_iconst (v := nI 1) hx hb dJx4a65c_add_9ea2d_23 (by decide) ?_
  refine W.widen (k := 1) (n := ms) (by omega) (by omega) ?_
  exact W.zret (v := nI 1) hx hb hr rfl (fun t ht _ => ⟨rfl, by rw [ht]; exact ⟨q, hB⟩, hS.F ht⟩) hS.2.2 dJx4a65c_add_9ea2d_24
set_option maxHeartbeats 4000000 in
set_option maxRecDepth 100000 in
theorem m_addR (l : Launch) (G : QG) (es : Nat) (A : Nat → Prop) (a E n cz sz mi mm : Nat) (g : Nat → Option Nat) (hcn : cz < n) (hn2 : n ≤ 4000) (ci : Nat) (r : vw_C) (hci : vwCl[ci]? = some r) (hca : Cond.castable r.1 "java/lang/Object" ∈ qwords) (v : Nat) (vs : List Value) (hvA : ¬ A v) (ms : Nat) (hms : 0 ≤ ms) : Met l yJx4a65c_add_9ea2d wsJx4a65c_add_9ea2d ({ frames := 6, cells := 1, slots := ms, locals := 150 } : Room) (qAd G es A [(a, .inr (2, [.int (nI mm), .ref E, .int (nI cz)])), (E, .inl (G.2 0, n, .inr (.inr (.inr (.inr (g))))))] [(v, .inr (ci, vs))] sz ci mi g [.ref (a), .ref (v)]) (qWV (some (.int (nI 1))) (fun H1 => ∃ q : Nat, va_P G.1 vwCl [(a, .inr (2, [.int (nI (mm + 1)), .ref q, .int (nI (cz + 1))])), (q, .inl (G.2 0, n, .inr (.inr (.inr (.inr (va_up g cz (some v)))))))] H1 ∧ va_D A [(a, .inr (2, [.int (nI (mm + 1)), .ref q, .int (nI (cz + 1))])), (q, .inl (G.2 0, n, .inr (.inr (.inr (.inr (va_up g cz (some v)))))))]) A) 1 ms A := by
  refine Met.ofW (cc := cJx4a65c_add_9ea2d) (maxL := 2) (ret := (some .boolean)) (by decide) rfl ?_
  intro p e s m args below meth c s₁ B hml hv
  obtain ⟨rfl, hC, hP, hD, hY, hZ, hA, hsz, hE, hM⟩ := hv
  have hx := B.exec
  have hb := B.bytes
  have hr := B.returns
  have hts := atoms_spec (ws := wsJx4a65c_add_9ea2d) B.pre
  have hown : s.vm.findClass RJx4a65c = some m.cls := findClass_of_methodNamed B.named
  have hlocks := B.notSynchronized
  have hS : va_S A s.heap s.heap [] := va_S.rf
  have hl := lv_entry ([.ref (a), .ref (v)]) (n := 2) (Nat.le_of_ble_eq_true rfl)
  rw [lg_entry_eq]
  generalize (lg_sl ([.ref (a), .ref (v)]) ++ List.replicate (2 - (lg_sl ([.ref (a), .ref (v)])).length) Slot.unset).toArray = ls at hl ⊢
  have hl : lv_has ls 2 [(0, .ref (a)), (1, .ref (v))] := hl
  subst hsz
  have iRJx4a65c : ∀ w ∈ wsJx4a65c0, w ∈ wsJx4a65c_add_9ea2d := by decide +kernel
  refine lv_aload_n hx hb dJx4a65c_add_9ea2d_0 rfl (lv_at hl 0 rfl) ?_
  refine lv_dup hx hb dJx4a65c_add_9ea2d_1 rfl ?_
  refine va_get (D := G.1) (ci := 2) (v := .int (nI mm)) (C := RJx4a65c) (T := TJx4a65c) (N := 3) hx hb hts iRJx4a65c hown hC.1 hP 0 rfl rfl 0 (by decide) (hts (.fieldLink RJx4a65c 63 "java/util/ArrayList" "modCount" "I") (List.mem_of_getElem? (i := 1) (by decide +kernel))) (fun x9 h9 => u_same (hts (.sameField "java/util/ArrayList" "java/util/AbstractList" "modCount" "I") (List.mem_of_getElem? (i := 2) (by decide +kernel))) x9 h9) rfl dJx4a65c_add_9ea2d_2 ?_
  refine lv_iconst (v := nI 1) hx hb dJx4a65c_add_9ea2d_5 (by decide) ?_
  refine lv_iadd hx hb dJx4a65c_add_9ea2d_6 ?_
  refine q_ti (nI_add mm 1) ?_
  refine va_put (D := G.1) (ci := 2) (v := .int (nI (mm + 1))) (ty := .int) (C := RJx4a65c) (T := TJx4a65c) (N := 3) hx hb hts iRJx4a65c tyJx4a65c tyJx4a65c_ok nmJx4a65c hown hC.1 hP hD hS 0 rfl rfl 0 (by decide) (hts (.fieldLink RJx4a65c 63 "java/util/ArrayList" "modCount" "I") (List.mem_of_getElem? (i := 1) (by decide +kernel))) (fun x9 h9 => u_same (hts (.sameField "java/util/ArrayList" "java/util/AbstractList" "modCount" "I") (List.mem_of_getElem? (i := 2) (by decide +kernel))) x9 h9) rfl (by decide +kernel) rfl rfl (Nat.le_of_ble_eq_true rfl) dJx4a65c_add_9ea2d_7 (fun H locs hP hD hS => ?_)
  have hP : va_P G.1 vwCl [(a, .inr (2, [.int (nI (mm + 1)), .ref E, .int (nI cz)])), (E, .inl (G.2 0, n, .inr (.inr (.inr (.inr (g))))))] H := hP
  have hD : va_D A [(a, .inr (2, [.int (nI (mm + 1)), .ref E, .int (nI cz)])), (E, .inl (G.2 0, n, .inr (.inr (.inr (.inr (g))))))] := hD
  have hYv := fun z : ¬ A v => (hY 0 _ rfl).kept (hS.2.1 v (hY 0 _ rfl).lt z)
  have hYv : va_P G.1 vwCl [(v, .inr (ci, vs))] H := va_P1 (hYv hvA)
  have hE2 : ∀ i y, g i = some y → ¬ A y ∧ ∃ fs, va_at G.1 vwCl (y, .inr (ci, fs)) H := fun i y hy => ⟨(hE i y hy).1, (hE i y hy).2.elim (fun fs h => ⟨fs, h.kept (hS.2.1 y h.lt (hE i y hy).1)⟩)⟩
  refine lv_aload_n hx hb dJx4a65c_add_9ea2d_10 rfl (lv_at hl 0 rfl) ?_
  refine lv_aload_n hx hb dJx4a65c_add_9ea2d_11 rfl (lv_at hl 1 rfl) ?_
  refine lv_aload_n hx hb dJx4a65c_add_9ea2d_12 rfl (lv_at hl 0 rfl) ?_
  refine va_get (D := G.1) (ci := 2) (v := .ref (E)) (C := RJx4a65c) (T := TJx4a65c) (N := 3) hx hb hts iRJx4a65c hown hC.1 hP 0 rfl rfl 1 (by decide) (hts (.fieldLink RJx4a65c 9 "java/util/ArrayList" "elementData" "[Ljava/lang/Object;") (List.mem_of_getElem? (i := 3) (by decide +kernel))) (fun _ h9 => h9) rfl dJx4a65c_add_9ea2d_13 ?_
  refine lv_aload_n hx hb dJx4a65c_add_9ea2d_16 rfl (lv_at hl 0 rfl) ?_
  refine va_get (D := G.1) (ci := 2) (v := .int (nI cz)) (C := RJx4a65c) (T := TJx4a65c) (N := 3) hx hb hts iRJx4a65c hown hC.1 hP 0 rfl rfl 2 (by decide) (hts (.fieldLink RJx4a65c 48 "java/util/ArrayList" "size" "I") (List.mem_of_getElem? (i := 4) (by decide +kernel))) (fun _ h9 => h9) rfl dJx4a65c_add_9ea2d_17 ?_
  refine q_wn (va_runV (As := [.ref (v), .ref (E), .int (nI cz)]) (rest := []) ⟨hx, hb, hml, hown, hts⟩ (m_add3 l G es A a E n cz H.size mi (mm + 1) g hcn hn2 ci r hci hca v vs) (cwV 3 hts gJx4a65c_add_9ea2d_Jx4a65c_add_72be8 rfl rfl rfl (by decide +kernel) ⟨Nat.le_of_ble_eq_true rfl, Nat.le_of_ble_eq_true rfl⟩) ⟨qAd.blind, qrecv hC (hP 0 _ rfl) rfl, qAd.pre hC hP hD hYv hZ hS (fun _ h => h) (fun q h => hA q (Nat.le_trans hS.1 h)) rfl hE2 hM⟩ rfl rfl hl.1 rfl (lv_room (Nat.le_of_ble_eq_true rfl)) dJx4a65c_add_9ea2d_20 ⟨by show 0 + 0 ≤ 1; omega, by show 0 + 0 ≤ ms; omega⟩) hS (fun _ h => h) (fun _ h => h) (fun H locs hB hz hk hS => ?_)
  refine lv_iconst (v := nI 1) hx hb dJx4a65c_add_9ea2d_23 (by decide) ?_
  refine W.widen (k := 1) (n := ms) (by omega) (by omega) ?_
  exact W.zret (v := nI 1) hx hb hr rfl (fun t ht _ => ⟨rfl, by rw [ht]; exact ⟨E, hB⟩, hS.F ht⟩) hS.2.2 dJx4a65c_add_9ea2d_24
