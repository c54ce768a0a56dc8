/-! constructors: what they ask and leave -/
def qK (G : QG) (A : Nat → Prop) (sz : Nat) (x : Nat × va_E) (av : List Value) : Array Value → State → Prop := va_Pc av (fun U => qCX G U ∧ va_at G.1 vwCl x U.heap ∧ A x.1 ∧ U.heap.size = sz)
theorem qK.blind {G : QG} {A : Nat → Prop} {sz : Nat} {x : Nat × va_E} {av : List Value} : FrameBlind (qK G A sz x av) := fun _ _ _ _ q => ⟨q.1, q.2.1.blind, q.2.2⟩
theorem qK.pre {G : QG} {A : Nat → Prop} {sz : Nat} {x : Nat × va_E} {av : List Value} {s : State} {H : Heap} (hC : qCX G s) (hx : va_at G.1 vwCl x H) (hA : A x.1) (hz : H.size = sz) : ∀ U : State, U.heap = H → s.WarmedH U.vm → qK G A sz x av av.toArray U := fun U hU hW => ⟨rfl, hC.warm hW, by rw [hU]; exact hx, hA, by rw [hU]; exact hz⟩
set_option maxHeartbeats 4000000 in
set_option maxRecDepth 100000 in
theorem m_initWords (l : Launch) (G : QG) (A : Nat → Prop) (sz a : Nat) (x1 : Int32) (x2 : Int32) (x3 : Int32) : Met l yX6_init wsX6_init ({ frames := 1, cells := 0, slots := 0, locals := 16 } : Room) (qK G A sz (a, .inr (9, [.int (nI 0), .int (nI 0), .int (nI 0)])) [.ref (a), .int (x1), .int (x2), .int (x3)]) (qWV none (fun H1 => va_at G.1 vwCl (a, .inr (9, [.int (x1), .int (x2), .int (x3)])) H1) A) 0 0 A := by
  refine Met.ofW (cc := cX6_init) (maxL := 4) (ret := none) (by decide) rfl ?_
  intro p e s m args below meth c s₁ B hml hv
  obtain ⟨rfl, hC, hat, hAa, hsz⟩ := hv
  have hx := B.exec
  have hb := B.bytes
  have hr := B.returns
  have hts := atoms_spec (ws := wsX6_init) B.pre
  have hown : s.vm.findClass RX6 = some m.cls := findClass_of_methodNamed B.named
  have hlocks := B.notSynchronized
  have hin2 : meth.name = "<init>" := (name_of_methodNamed B.named B.method).1
  have hS : va_S A s.heap s.heap [] := va_S.rf
  have hl := lv_entry ([.ref (a), .int (x1), .int (x2), .int (x3)]) (n := 4) (Nat.le_of_ble_eq_true rfl)
  rw [lg_entry_eq]
  generalize (lg_sl ([.ref (a), .int (x1), .int (x2), .int (x3)]) ++ List.replicate (4 - (lg_sl ([.ref (a), .int (x1), .int (x2), .int (x3)])).length) Slot.unset).toArray = ls at hl ⊢
  have hl : lv_has ls 4 [(0, .ref (a)), (1, .int (x1)), (2, .int (x2)), (3, .int (x3))] := hl
  subst hsz
  have iRX6 : ∀ w ∈ wsX60, w ∈ wsX6_init := by decide +kernel
  refine lv_aload_n hx hb dX6_init_0 rfl (lv_at hl 0 rfl) ?_
  refine W.objInit hx hb hown (hts (.methodLink RX6 3 objectInit) (List.mem_of_getElem? (i := 1) (by decide +kernel))) (hts (.instanceMethod objectInit) (List.mem_of_getElem? (i := 2) (by decide +kernel))) (hts _ (List.mem_of_getElem? (i := 3) (by decide +kernel))) rfl (hl.1.trans hml.symm) rfl dX6_init_1 (Nat.le_of_ble_eq_true rfl) (Nat.le_of_ble_eq_true rfl) ?_
  refine lv_aload_n hx hb dX6_init_4 rfl (lv_at hl 0 rfl) ?_
  refine lv_iload_n hx hb dX6_init_5 rfl (lv_at hl 1 rfl) ?_
  refine q_put (C := RX6) (T := TX6) (N := 3) (ty := .int) (v := .int (x1)) hx hb hts iRX6 tyX6 tyX6_ok nmX6 hown hC.1 hat hAa hS rfl 0 (by decide) (hts (.fieldLink RX6 9 "LogWeave$Words" "first" "I") (List.mem_of_getElem? (i := 4) (by decide +kernel))) rfl rfl (by decide +kernel) rfl rfl (Nat.le_of_ble_eq_true rfl) dX6_init_6 (fun H locs hat hz1 hoq hS => ?_)
  have hat : va_at G.1 vwCl (a, .inr (9, [.int (x1), .int (nI 0), .int (nI 0)])) H := hat
  refine lv_aload_n hx hb dX6_init_9 rfl (lv_at hl 0 rfl) ?_
  refine lv_iload_n hx hb dX6_init_10 rfl (lv_at hl 2 rfl) ?_
  refine q_put (C := RX6) (T := TX6) (N := 3) (ty := .int) (v := .int (x2)) hx hb hts iRX6 tyX6 tyX6_ok nmX6 hown hC.1 hat hAa hS rfl 1 (by decide) (hts (.fieldLink RX6 15 "LogWeave$Words" "second" "I") (List.mem_of_getElem? (i := 5) (by decide +kernel))) rfl rfl (by decide +kernel) rfl rfl (Nat.le_of_ble_eq_true rfl) dX6_init_11 (fun H locs hat hz1 hoq hS => ?_)
  have hat : va_at G.1 vwCl (a, .inr (9, [.int (x1), .int (x2), .int (nI 0)])) H := hat
  refine lv_aload_n hx hb dX6_init_14 rfl (lv_at hl 0 rfl) ?_
  refine lv_iload_n hx hb dX6_init_15 rfl (lv_at hl 3 rfl) ?_
  refine q_put (C := RX6) (T := TX6) (N := 3) (ty := .int) (v := .int (x3)) hx hb hts iRX6 tyX6 tyX6_ok nmX6 hown hC.1 hat hAa hS rfl 2 (by decide) (hts (.fieldLink RX6 18 "LogWeave$Words" "third" "I") (List.mem_of_getElem? (i := 6) (by decide +kernel))) rfl rfl (by decide +kernel) rfl rfl (Nat.le_of_ble_eq_true rfl) dX6_init_16 (fun H locs hat hz1 hoq hS => ?_)
  have hat : va_at G.1 vwCl (a, .inr (9, [.int (x1), .int (x2), .int (x3)])) H := hat
  exact W.vret hx hb hr (fun t ht _ => ⟨rfl, by rw [ht]; exact hat, hS.F ht⟩) hS.2.2 dX6_init_19
set_option maxHeartbeats 4000000 in
set_option maxRecDepth 100000 in
theorem m_initPattern (l : Launch) (G : QG) (A : Nat → Prop) (sz a : Nat) (x1 : Int32) (x2 : Int32) (w0 : Nat) : Met l yX4_init wsX4_init ({ frames := 1, cells := 0, slots := 0, locals := 16 } : Room) (qK G A sz (a, .inr (7, [.int (nI 0), .int (nI 0), .null, .int (nI 0)])) [.ref (a), .int (x1), .int (x2), .ref (w0)]) (qWV none (fun H1 => va_at G.1 vwCl (a, .inr (7, [.int (x1), .int (x2), .ref (w0), .int (nI 0)])) H1) A) 0 0 A := by
  refine Met.ofW (cc := cX4_init) (maxL := 4) (ret := none) (by decide) rfl ?_
  intro p e s m args below meth c s₁ B hml hv
  obtain ⟨rfl, hC, hat, hAa, hsz⟩ := hv
  have hx := B.exec
  have hb := B.bytes
  have hr := B.returns
  have hts := atoms_spec (ws := wsX4_init) B.pre
  have hown : s.vm.findClass RX4 = some m.cls := findClass_of_methodNamed B.named
  have hlocks := B.notSynchronized
  have hin2 : meth.name = "<init>" := (name_of_methodNamed B.named B.method).1
  have hS : va_S A s.heap s.heap [] := va_S.rf
  have hl := lv_entry ([.ref (a), .int (x1), .int (x2), .ref (w0)]) (n := 4) (Nat.le_of_ble_eq_true rfl)
  rw [lg_entry_eq]
  generalize (lg_sl ([.ref (a), .int (x1), .int (x2), .ref (w0)]) ++ List.replicate (4 - (lg_sl ([.ref (a), .int (x1), .int (x2), .ref (w0)])).length) Slot.unset).toArray = ls at hl ⊢
  have hl : lv_has ls 4 [(0, .ref (a)), (1, .int (x1)), (2, .int (x2)), (3, .ref (w0))] := hl
  subst hsz
  have iRX4 : ∀ w ∈ wsX40, w ∈ wsX4_init := by decide +kernel
  refine lv_aload_n hx hb dX4_init_0 rfl (lv_at hl 0 rfl) ?_
  refine W.objInit hx hb hown (hts (.methodLink RX4 3 objectInit) (List.mem_of_getElem? (i := 1) (by decide +kernel))) (hts (.instanceMethod objectInit) (List.mem_of_getElem? (i := 2) (by decide +kernel))) (hts _ (List.mem_of_getElem? (i := 3) (by decide +kernel))) rfl (hl.1.trans hml.symm) rfl dX4_init_1 (Nat.le_of_ble_eq_true rfl) (Nat.le_of_ble_eq_true rfl) ?_
  refine lv_aload_n hx hb dX4_init_4 rfl (lv_at hl 0 rfl) ?_
  refine lv_iload_n hx hb dX4_init_5 rfl (lv_at hl 1 rfl) ?_
  refine q_putF (C := RX4) (T := TX4) (N := 4) (ty := .int) (v := .int (x1)) hx hb hts iRX4 tyX4 tyX4_ok nmX4 hown hC.1 hat hAa hS rfl 0 (by decide) (hts (.fieldLink RX4 9 "LogWeave$Pattern" "number" "I") (List.mem_of_getElem? (i := 4) (by decide +kernel))) rfl rfl hin2 rfl (by decide +kernel) rfl rfl (Nat.le_of_ble_eq_true rfl) dX4_init_6 (fun H locs hat hz1 hoq hS => ?_)
  have hat : va_at G.1 vwCl (a, .inr (7, [.int (x1), .int (nI 0), .null, .int (nI 0)])) H := hat
  refine lv_aload_n hx hb dX4_init_9 rfl (lv_at hl 0 rfl) ?_
  refine lv_iload_n hx hb dX4_init_10 rfl (lv_at hl 2 rfl) ?_
  refine q_putF (C := RX4) (T := TX4) (N := 4) (ty := .int) (v := .int (x2)) hx hb hts iRX4 tyX4 tyX4_ok nmX4 hown hC.1 hat hAa hS rfl 1 (by decide) (hts (.fieldLink RX4 15 "LogWeave$Pattern" "source" "I") (List.mem_of_getElem? (i := 5) (by decide +kernel))) rfl rfl hin2 rfl (by decide +kernel) rfl rfl (Nat.le_of_ble_eq_true rfl) dX4_init_11 (fun H locs hat hz1 hoq hS => ?_)
  have hat : va_at G.1 vwCl (a, .inr (7, [.int (x1), .int (x2), .null, .int (nI 0)])) H := hat
  refine lv_aload_n hx hb dX4_init_14 rfl (lv_at hl 0 rfl) ?_
  refine lv_aload_n hx hb dX4_init_15 rfl (lv_at hl 3 rfl) ?_
  refine q_putF (C := RX4) (T := TX4) (N := 4) (ty := .object "LogWeave$Words") (v := .ref (w0)) hx hb hts iRX4 tyX4 tyX4_ok nmX4 hown hC.1 hat hAa hS rfl 2 (by decide) (hts (.fieldLink RX4 18 "LogWeave$Pattern" "words" "LLogWeave$Words;") (List.mem_of_getElem? (i := 6) (by decide +kernel))) rfl rfl hin2 rfl (by decide +kernel) rfl rfl (Nat.le_of_ble_eq_true rfl) dX4_init_16 (fun H locs hat hz1 hoq hS => ?_)
  have hat : va_at G.1 vwCl (a, .inr (7, [.int (x1), .int (x2), .ref (w0), .int (nI 0)])) H := hat
  exact W.vret hx hb hr (fun t ht _ => ⟨rfl, by rw [ht]; exact hat, hS.F ht⟩) hS.2.2 dX4_init_19
set_option maxHeartbeats 4000000 in
set_option maxRecDepth 100000 in
theorem m_initLine (l : Launch) (G : QG) (A : Nat → Prop) (sz a : Nat) (x1 : Int32) (x2 : Int32) (w0 : Nat) (x3 : Int32) (x4 : Int32) (q0 : Nat) : Met l yX3_init wsX3_init ({ frames := 1, cells := 0, slots := 0, locals := 16 } : Room) (qK G A sz (a, .inr (6, [.int (nI 0), .int (nI 0), .null, .int (nI 0), .int (nI 0), .null, .int (nI 0), .int (nI 0)])) [.ref (a), .int (x1), .int (x2), .ref (w0), .int (x3), .int (x4), .ref (q0)]) (qWV none (fun H1 => va_at G.1 vwCl (a, .inr (6, [.int (x1), .int (x2), .ref (w0), .int (x3), .int (x4), .ref (q0), .int (nI 107), .int (nI 0)])) H1) A) 0 0 A := by
  refine Met.ofW (cc := cX3_init) (maxL := 7) (ret := none) (by decide) rfl ?_
  intro p e s m args below meth c s₁ B hml hv
  obtain ⟨rfl, hC, hat, hAa, hsz⟩ := hv
  have hx := B.exec
  have hb := B.bytes
  have hr := B.returns
  have hts := atoms_spec (ws := wsX3_init) B.pre
  have hown : s.vm.findClass RX3 = some m.cls := findClass_of_methodNamed B.named
  have hlocks := B.notSynchronized
  have hin2 : meth.name = "<init>" := (name_of_methodNamed B.named B.method).1
  have hS : va_S A s.heap s.heap [] := va_S.rf
  have hl := lv_entry ([.ref (a), .int (x1), .int (x2), .ref (w0), .int (x3), .int (x4), .ref (q0)]) (n := 7) (Nat.le_of_ble_eq_true rfl)
  rw [lg_entry_eq]
  generalize (lg_sl ([.ref (a), .int (x1), .int (x2), .ref (w0), .int (x3), .int (x4), .ref (q0)]) ++ List.replicate (7 - (lg_sl ([.ref (a), .int (x1), .int (x2), .ref (w0), .int (x3), .int (x4), .ref (q0)])).length) Slot.unset).toArray = ls at hl ⊢
  have hl : lv_has ls 7 [(0, .ref (a)), (1, .int (x1)), (2, .int (x2)), (3, .ref (w0)), (4, .int (x3)), (5, .int (x4)), (6, .ref (q0))] := hl
  subst hsz
  have iRX3 : ∀ w ∈ wsX30, w ∈ wsX3_init := by decide +kernel
  refine lv_aload_n hx hb dX3_init_0 rfl (lv_at hl 0 rfl) ?_
  refine W.objInit hx hb hown (hts (.methodLink RX3 3 objectInit) (List.mem_of_getElem? (i := 1) (by decide +kernel))) (hts (.instanceMethod objectInit) (List.mem_of_getElem? (i := 2) (by decide +kernel))) (hts _ (List.mem_of_getElem? (i := 3) (by decide +kernel))) rfl (hl.1.trans hml.symm) rfl dX3_init_1 (Nat.le_of_ble_eq_true rfl) (Nat.le_of_ble_eq_true rfl) ?_
  refine lv_aload_n hx hb dX3_init_4 rfl (lv_at hl 0 rfl) ?_
  refine lv_bipush (v := nI 107) hx hb dX3_init_5 (by decide) ?_
  refine q_put (C := RX3) (T := TX3) (N := 8) (ty := .char) (v := .int (nI 107)) hx hb hts iRX3 tyX3 tyX3_ok nmX3 hown hC.1 hat hAa hS rfl 6 (by decide) (hts (.fieldLink RX3 9 "LogWeave$Line" "state" "C") (List.mem_of_getElem? (i := 4) (by decide +kernel))) rfl rfl (by decide +kernel) (by decide) rfl (Nat.le_of_ble_eq_true rfl) dX3_init_7 (fun H locs hat hz1 hoq hS => ?_)
  have hat : va_at G.1 vwCl (a, .inr (6, [.int (nI 0), .int (nI 0), .null, .int (nI 0), .int (nI 0), .null, .int (nI 107), .int (nI 0)])) H := hat
  refine lv_aload_n hx hb dX3_init_10 rfl (lv_at hl 0 rfl) ?_
  refine lv_iload_n hx hb dX3_init_11 rfl (lv_at hl 1 rfl) ?_
  refine q_putF (C := RX3) (T := TX3) (N := 8) (ty := .int) (v := .int (x1)) hx hb hts iRX3 tyX3 tyX3_ok nmX3 hown hC.1 hat hAa hS rfl 0 (by decide) (hts (.fieldLink RX3 15 "LogWeave$Line" "source" "I") (List.mem_of_getElem? (i := 5) (by decide +kernel))) rfl rfl hin2 rfl (by decide +kernel) rfl rfl (Nat.le_of_ble_eq_true rfl) dX3_init_12 (fun H locs hat hz1 hoq hS => ?_)
  have hat : va_at G.1 vwCl (a, .inr (6, [.int (x1), .int (nI 0), .null, .int (nI 0), .int (nI 0), .null, .int (nI 107), .int (nI 0)])) H := hat
  refine lv_aload_n hx hb dX3_init_15 rfl (lv_at hl 0 rfl) ?_
  refine lv_iload_n hx hb dX3_init_16 rfl (lv_at hl 2 rfl) ?_
  refine q_putF (C := RX3) (T := TX3) (N := 8) (ty := .int) (v := .int (x2)) hx hb hts iRX3 tyX3 tyX3_ok nmX3 hown hC.1 hat hAa hS rfl 1 (by decide) (hts (.fieldLink RX3 19 "LogWeave$Line" "rank" "I") (List.mem_of_getElem? (i := 6) (by decide +kernel))) rfl rfl hin2 rfl (by decide +kernel) rfl rfl (Nat.le_of_ble_eq_true rfl) dX3_init_17 (fun H locs hat hz1 hoq hS => ?_)
  have hat : va_at G.1 vwCl (a, .inr (6, [.int (x1), .int (x2), .null, .int (nI 0), .int (nI 0), .null, .int (nI 107), .int (nI 0)])) H := hat
  refine lv_aload_n hx hb dX3_init_20 rfl (lv_at hl 0 rfl) ?_
  refine lv_aload_n hx hb dX3_init_21 rfl (lv_at hl 3 rfl) ?_
  refine q_putF (C := RX3) (T := TX3) (N := 8) (ty := .object "LogWeave$Words") (v := .ref (w0)) hx hb hts iRX3 tyX3 tyX3_ok nmX3 hown hC.1 hat hAa hS rfl 2 (by decide) (hts (.fieldLink RX3 22 "LogWeave$Line" "words" "LLogWeave$Words;") (List.mem_of_getElem? (i := 7) (by decide +kernel))) rfl rfl hin2 rfl (by decide +kernel) rfl rfl (Nat.le_of_ble_eq_true rfl) dX3_init_22 (fun H locs hat hz1 hoq hS => ?_)
  have hat : va_at G.1 vwCl (a, .inr (6, [.int (x1), .int (x2), .ref (w0), .int (nI 0), .int (nI 0), .null, .int (nI 107), .int (nI 0)])) H := hat
  refine lv_aload_n hx hb dX3_init_25 rfl (lv_at hl 0 rfl) ?_
  refine lv_iload hx hb dX3_init_26 (lv_at hl 4 rfl) ?_
  refine q_putF (C := RX3) (T := TX3) (N := 8) (ty := .int) (v := .int (x3)) hx hb hts iRX3 tyX3 tyX3_ok nmX3 hown hC.1 hat hAa hS rfl 3 (by decide) (hts (.fieldLink RX3 26 "LogWeave$Line" "bytes" "I") (List.mem_of_getElem? (i := 8) (by decide +kernel))) rfl rfl hin2 rfl (by decide +kernel) rfl rfl (Nat.le_of_ble_eq_true rfl) dX3_init_28 (fun H locs hat hz1 hoq hS => ?_)
  have hat : va_at G.1 vwCl (a, .inr (6, [.int (x1), .int (x2), .ref (w0), .int (x3), .int (nI 0), .null, .int (nI 107), .int (nI 0)])) H := hat
  refine lv_aload_n hx hb dX3_init_31 rfl (lv_at hl 0 rfl) ?_
  refine lv_iload hx hb dX3_init_32 (lv_at hl 5 rfl) ?_
  refine q_putF (C := RX3) (T := TX3) (N := 8) (ty := .int) (v := .int (x4)) hx hb hts iRX3 tyX3 tyX3_ok nmX3 hown hC.1 hat hAa hS rfl 4 (by decide) (hts (.fieldLink RX3 29 "LogWeave$Line" "came" "I") (List.mem_of_getElem? (i := 9) (by decide +kernel))) rfl rfl hin2 rfl (by decide +kernel) rfl rfl (Nat.le_of_ble_eq_true rfl) dX3_init_34 (fun H locs hat hz1 hoq hS => ?_)
  have hat : va_at G.1 vwCl (a, .inr (6, [.int (x1), .int (x2), .ref (w0), .int (x3), .int (x4), .null, .int (nI 107), .int (nI 0)])) H := hat
  refine lv_aload_n hx hb dX3_init_37 rfl (lv_at hl 0 rfl) ?_
  refine lv_aload hx hb dX3_init_38 (lv_at hl 6 rfl) ?_
  refine q_put (C := RX3) (T := TX3) (N := 8) (ty := .object "LogWeave$Pattern") (v := .ref (q0)) hx hb hts iRX3 tyX3 tyX3_ok nmX3 hown hC.1 hat hAa hS rfl 5 (by decide) (hts (.fieldLink RX3 32 "LogWeave$Line" "pattern" "LLogWeave$Pattern;") (List.mem_of_getElem? (i := 10) (by decide +kernel))) rfl rfl (by decide +kernel) rfl rfl (Nat.le_of_ble_eq_true rfl) dX3_init_40 (fun H locs hat hz1 hoq hS => ?_)
  have hat : va_at G.1 vwCl (a, .inr (6, [.int (x1), .int (x2), .ref (w0), .int (x3), .int (x4), .ref (q0), .int (nI 107), .int (nI 0)])) H := hat
  exact W.vret hx hb hr (fun t ht _ => ⟨rfl, by rw [ht]; exact hat, hS.F ht⟩) hS.2.2 dX3_init_43
set_option maxHeartbeats 4000000 in
set_option maxRecDepth 100000 in
theorem m_initFilter (l : Launch) (G : QG) (A : Nat → Prop) (sz a : Nat) (x1 : Int32) (x2 : Int32) (x3 : Int32) (x4 : Int32) : Met l yX1_init wsX1_init ({ frames := 1, cells := 0, slots := 0, locals := 16 } : Room) (qK G A sz (a, .inr (4, [.int (nI 0), .int (nI 0), .int (nI 0), .int (nI 0)])) [.ref (a), .int (x1), .int (x2), .int (x3), .int (x4)]) (qWV none (fun H1 => va_at G.1 vwCl (a, .inr (4, [.int (x1), .int (x2), .int (x3), .int (x4)])) H1) A) 0 0 A := by
  refine Met.ofW (cc := cX1_init) (maxL := 5) (ret := none) (by decide) rfl ?_
  intro p e s m args below meth c s₁ B hml hv
  obtain ⟨rfl, hC, hat, hAa, hsz⟩ := hv
  have hx := B.exec
  have hb := B.bytes
  have hr := B.returns
  have hts := atoms_spec (ws := wsX1_init) B.pre
  have hown : s.vm.findClass RX1 = some m.cls := findClass_of_methodNamed B.named
  have hlocks := B.notSynchronized
  have hin2 : meth.name = "<init>" := (name_of_methodNamed B.named B.method).1
  have hS : va_S A s.heap s.heap [] := va_S.rf
  have hl := lv_entry ([.ref (a), .int (x1), .int (x2), .int (x3), .int (x4)]) (n := 5) (Nat.le_of_ble_eq_true rfl)
  rw [lg_entry_eq]
  generalize (lg_sl ([.ref (a), .int (x1), .int (x2), .int (x3), .int (x4)]) ++ List.replicate (5 - (lg_sl ([.ref (a), .int (x1), .int (x2), .int (x3), .int (x4)])).length) Slot.unset).toArray = ls at hl ⊢
  have hl : lv_has ls 5 [(0, .ref (a)), (1, .int (x1)), (2, .int (x2)), (3, .int (x3)), (4, .int (x4))] := hl
  subst hsz
  have iRX1 : ∀ w ∈ wsX10, w ∈ wsX1_init := by decide +kernel
  refine lv_aload_n hx hb dX1_init_0 rfl (lv_at hl 0 rfl) ?_
  refine W.objInit hx hb hown (hts (.methodLink RX1 3 objectInit) (List.mem_of_getElem? (i := 1) (by decide +kernel))) (hts (.instanceMethod objectInit) (List.mem_of_getElem? (i := 2) (by decide +kernel))) (hts _ (List.mem_of_getElem? (i := 3) (by decide +kernel))) rfl (hl.1.trans hml.symm) rfl dX1_init_1 (Nat.le_of_ble_eq_true rfl) (Nat.le_of_ble_eq_true rfl) ?_
  refine lv_aload_n hx hb dX1_init_4 rfl (lv_at hl 0 rfl) ?_
  refine lv_iload_n hx hb dX1_init_5 rfl (lv_at hl 1 rfl) ?_
  refine q_putF (C := RX1) (T := TX1) (N := 4) (ty := .int) (v := .int (x1)) hx hb hts iRX1 tyX1 tyX1_ok nmX1 hown hC.1 hat hAa hS rfl 0 (by decide) (hts (.fieldLink RX1 9 "LogWeave$Filter" "source" "I") (List.mem_of_getElem? (i := 4) (by decide +kernel))) rfl rfl hin2 rfl (by decide +kernel) rfl rfl (Nat.le_of_ble_eq_true rfl) dX1_init_6 (fun H locs hat hz1 hoq hS => ?_)
  have hat : va_at G.1 vwCl (a, .inr (4, [.int (x1), .int (nI 0), .int (nI 0), .int (nI 0)])) H := hat
  refine lv_aload_n hx hb dX1_init_9 rfl (lv_at hl 0 rfl) ?_
  refine lv_iload_n hx hb dX1_init_10 rfl (lv_at hl 2 rfl) ?_
  refine q_putF (C := RX1) (T := TX1) (N := 4) (ty := .int) (v := .int (x2)) hx hb hts iRX1 tyX1 tyX1_ok nmX1 hown hC.1 hat hAa hS rfl 1 (by decide) (hts (.fieldLink RX1 15 "LogWeave$Filter" "leastRank" "I") (List.mem_of_getElem? (i := 5) (by decide +kernel))) rfl rfl hin2 rfl (by decide +kernel) rfl rfl (Nat.le_of_ble_eq_true rfl) dX1_init_11 (fun H locs hat hz1 hoq hS => ?_)
  have hat : va_at G.1 vwCl (a, .inr (4, [.int (x1), .int (x2), .int (nI 0), .int (nI 0)])) H := hat
  refine lv_aload_n hx hb dX1_init_14 rfl (lv_at hl 0 rfl) ?_
  refine lv_iload_n hx hb dX1_init_15 rfl (lv_at hl 3 rfl) ?_
  refine q_putF (C := RX1) (T := TX1) (N := 4) (ty := .int) (v := .int (x3)) hx hb hts iRX1 tyX1 tyX1_ok nmX1 hown hC.1 hat hAa hS rfl 2 (by decide) (hts (.fieldLink RX1 18 "LogWeave$Filter" "place" "I") (List.mem_of_getElem? (i := 6) (by decide +kernel))) rfl rfl hin2 rfl (by decide +kernel) rfl rfl (Nat.le_of_ble_eq_true rfl) dX1_init_16 (fun H locs hat hz1 hoq hS => ?_)
  have hat : va_at G.1 vwCl (a, .inr (4, [.int (x1), .int (x2), .int (x3), .int (nI 0)])) H := hat
  refine lv_aload_n hx hb dX1_init_19 rfl (lv_at hl 0 rfl) ?_
  refine lv_iload hx hb dX1_init_20 (lv_at hl 4 rfl) ?_
  refine q_putF (C := RX1) (T := TX1) (N := 4) (ty := .int) (v := .int (x4)) hx hb hts iRX1 tyX1 tyX1_ok nmX1 hown hC.1 hat hAa hS rfl 3 (by decide) (hts (.fieldLink RX1 21 "LogWeave$Filter" "word" "I") (List.mem_of_getElem? (i := 7) (by decide +kernel))) rfl rfl hin2 rfl (by decide +kernel) rfl rfl (Nat.le_of_ble_eq_true rfl) dX1_init_22 (fun H locs hat hz1 hoq hS => ?_)
  have hat : va_at G.1 vwCl (a, .inr (4, [.int (x1), .int (x2), .int (x3), .int (x4)])) H := hat
  exact W.vret hx hb hr (fun t ht _ => ⟨rfl, by rw [ht]; exact hat, hS.F ht⟩) hS.2.2 dX1_init_25
set_option maxHeartbeats 4000000 in
set_option maxRecDepth 100000 in
theorem m_initAlert (l : Launch) (G : QG) (A : Nat → Prop) (sz a : Nat) (x1 : Int32) (w0 : Nat) (x2 : Int32) (x3 : Int32) (x4 : Int32) : Met l yX0_init wsX0_init ({ frames := 1, cells := 0, slots := 0, locals := 16 } : Room) (qK G A sz (a, .inr (3, [.int (nI 0), .null, .int (nI 0), .int (nI 0), .int (nI 0), .int (nI 0), .int (nI 0), .int (nI 0), .null])) [.ref (a), .int (x1), .ref (w0), .int (x2), .int (x3), .int (x4)]) (qWV none (fun H1 => va_at G.1 vwCl (a, .inr (3, [.int (x1), .ref (w0), .int (x2), .int (x3), .int (x4), .int (nI 113), .int (nI 0), .int (nI 0), .null])) H1) A) 0 0 A := by
  refine Met.ofW (cc := cX0_init) (maxL := 6) (ret := none) (by decide) rfl ?_
  intro p e s m args below meth c s₁ B hml hv
  obtain ⟨rfl, hC, hat, hAa, hsz⟩ := hv
  have hx := B.exec
  have hb := B.bytes
  have hr := B.returns
  have hts := atoms_spec (ws := wsX0_init) B.pre
  have hown : s.vm.findClass RX0 = some m.cls := findClass_of_methodNamed B.named
  have hlocks := B.notSynchronized
  have hin2 : meth.name = "<init>" := (name_of_methodNamed B.named B.method).1
  have hS : va_S A s.heap s.heap [] := va_S.rf
  have hl := lv_entry ([.ref (a), .int (x1), .ref (w0), .int (x2), .int (x3), .int (x4)]) (n := 6) (Nat.le_of_ble_eq_true rfl)
  rw [lg_entry_eq]
  generalize (lg_sl ([.ref (a), .int (x1), .ref (w0), .int (x2), .int (x3), .int (x4)]) ++ List.replicate (6 - (lg_sl ([.ref (a), .int (x1), .ref (w0), .int (x2), .int (x3), .int (x4)])).length) Slot.unset).toArray = ls at hl ⊢
  have hl : lv_has ls 6 [(0, .ref (a)), (1, .int (x1)), (2, .ref (w0)), (3, .int (x2)), (4, .int (x3)), (5, .int (x4))] := hl
  subst hsz
  have iRX0 : ∀ w ∈ wsX00, w ∈ wsX0_init := by decide +kernel
  refine lv_aload_n hx hb dX0_init_0 rfl (lv_at hl 0 rfl) ?_
  refine W.objInit hx hb hown (hts (.methodLink RX0 3 objectInit) (List.mem_of_getElem? (i := 1) (by decide +kernel))) (hts (.instanceMethod objectInit) (List.mem_of_getElem? (i := 2) (by decide +kernel))) (hts _ (List.mem_of_getElem? (i := 3) (by decide +kernel))) rfl (hl.1.trans hml.symm) rfl dX0_init_1 (Nat.le_of_ble_eq_true rfl) (Nat.le_of_ble_eq_true rfl) ?_
  refine lv_aload_n hx hb dX0_init_4 rfl (lv_at hl 0 rfl) ?_
  refine lv_bipush (v := nI 113) hx hb dX0_init_5 (by decide) ?_
  refine q_put (C := RX0) (T := TX0) (N := 9) (ty := .char) (v := .int (nI 113)) hx hb hts iRX0 tyX0 tyX0_ok nmX0 hown hC.1 hat hAa hS rfl 5 (by decide) (hts (.fieldLink RX0 9 "LogWeave$Alert" "state" "C") (List.mem_of_getElem? (i := 4) (by decide +kernel))) rfl rfl (by decide +kernel) (by decide) rfl (Nat.le_of_ble_eq_true rfl) dX0_init_7 (fun H locs hat hz1 hoq hS => ?_)
  have hat : va_at G.1 vwCl (a, .inr (3, [.int (nI 0), .null, .int (nI 0), .int (nI 0), .int (nI 0), .int (nI 113), .int (nI 0), .int (nI 0), .null])) H := hat
  refine lv_aload_n hx hb dX0_init_10 rfl (lv_at hl 0 rfl) ?_
  refine lv_iload_n hx hb dX0_init_11 rfl (lv_at hl 1 rfl) ?_
  refine q_putF (C := RX0) (T := TX0) (N := 9) (ty := .int) (v := .int (x1)) hx hb hts iRX0 tyX0 tyX0_ok nmX0 hown hC.1 hat hAa hS rfl 0 (by decide) (hts (.fieldLink RX0 15 "LogWeave$Alert" "number" "I") (List.mem_of_getElem? (i := 5) (by decide +kernel))) rfl rfl hin2 rfl (by decide +kernel) rfl rfl (Nat.le_of_ble_eq_true rfl) dX0_init_12 (fun H locs hat hz1 hoq hS => ?_)
  have hat : va_at G.1 vwCl (a, .inr (3, [.int (x1), .null, .int (nI 0), .int (nI 0), .int (nI 0), .int (nI 113), .int (nI 0), .int (nI 0), .null])) H := hat
  refine lv_aload_n hx hb dX0_init_15 rfl (lv_at hl 0 rfl) ?_
  refine lv_aload_n hx hb dX0_init_16 rfl (lv_at hl 2 rfl) ?_
  refine q_putF (C := RX0) (T := TX0) (N := 9) (ty := .object "LogWeave$Filter") (v := .ref (w0)) hx hb hts iRX0 tyX0 tyX0_ok nmX0 hown hC.1 hat hAa hS rfl 1 (by decide) (hts (.fieldLink RX0 19 "LogWeave$Alert" "filter" "LLogWeave$Filter;") (List.mem_of_getElem? (i := 6) (by decide +kernel))) rfl rfl hin2 rfl (by decide +kernel) rfl rfl (Nat.le_of_ble_eq_true rfl) dX0_init_17 (fun H locs hat hz1 hoq hS => ?_)
  have hat : va_at G.1 vwCl (a, .inr (3, [.int (x1), .ref (w0), .int (nI 0), .int (nI 0), .int (nI 0), .int (nI 113), .int (nI 0), .int (nI 0), .null])) H := hat
  refine lv_aload_n hx hb dX0_init_20 rfl (lv_at hl 0 rfl) ?_
  refine lv_iload_n hx hb dX0_init_21 rfl (lv_at hl 3 rfl) ?_
  refine q_putF (C := RX0) (T := TX0) (N := 9) (ty := .int) (v := .int (x2)) hx hb hts iRX0 tyX0 tyX0_ok nmX0 hown hC.1 hat hAa hS rfl 2 (by decide) (hts (.fieldLink RX0 23 "LogWeave$Alert" "goal" "I") (List.mem_of_getElem? (i := 7) (by decide +kernel))) rfl rfl hin2 rfl (by decide +kernel) rfl rfl (Nat.le_of_ble_eq_true rfl) dX0_init_22 (fun H locs hat hz1 hoq hS => ?_)
  have hat : va_at G.1 vwCl (a, .inr (3, [.int (x1), .ref (w0), .int (x2), .int (nI 0), .int (nI 0), .int (nI 113), .int (nI 0), .int (nI 0), .null])) H := hat
  refine lv_aload_n hx hb dX0_init_25 rfl (lv_at hl 0 rfl) ?_
  refine lv_iload hx hb dX0_init_26 (lv_at hl 4 rfl) ?_
  refine q_putF (C := RX0) (T := TX0) (N := 9) (ty := .int) (v := .int (x3)) hx hb hts iRX0 tyX0 tyX0_ok nmX0 hown hC.1 hat hAa hS rfl 3 (by decide) (hts (.fieldLink RX0 26 "LogWeave$Alert" "window" "I") (List.mem_of_getElem? (i := 8) (by decide +kernel))) rfl rfl hin2 rfl (by decide +kernel) rfl rfl (Nat.le_of_ble_eq_true rfl) dX0_init_28 (fun H locs hat hz1 hoq hS => ?_)
  have hat : va_at G.1 vwCl (a, .inr (3, [.int (x1), .ref (w0), .int (x2), .int (x3), .int (nI 0), .int (nI 113), .int (nI 0), .int (nI 0), .null])) H := hat
  refine lv_aload_n hx hb dX0_init_31 rfl (lv_at hl 0 rfl) ?_
  refine lv_iload hx hb dX0_init_32 (lv_at hl 5 rfl) ?_
  refine q_putF (C := RX0) (T := TX0) (N := 9) (ty := .int) (v := .int (x4)) hx hb hts iRX0 tyX0 tyX0_ok nmX0 hown hC.1 hat hAa hS rfl 4 (by decide) (hts (.fieldLink RX0 29 "LogWeave$Alert" "hold" "I") (List.mem_of_getElem? (i := 9) (by decide +kernel))) rfl rfl hin2 rfl (by decide +kernel) rfl rfl (Nat.le_of_ble_eq_true rfl) dX0_init_34 (fun H locs hat hz1 hoq hS => ?_)
  have hat : va_at G.1 vwCl (a, .inr (3, [.int (x1), .ref (w0), .int (x2), .int (x3), .int (x4), .int (nI 113), .int (nI 0), .int (nI 0), .null])) H := hat
  exact W.vret hx hb hr (fun t ht _ => ⟨rfl, by rw [ht]; exact hat, hS.F ht⟩) hS.2.2 dX0_init_37
set_option maxHeartbeats 4000000 in
set_option maxRecDepth 100000 in
theorem m_initRequest (l : Launch) (G : QG) (A : Nat → Prop) (sz a : Nat) (w0 : Nat) (x1 : Int32) : Met l yX5_init wsX5_init ({ frames := 1, cells := 0, slots := 0, locals := 16 } : Room) (qK G A sz (a, .inr (8, [.null, .int (nI 0), .int (nI 0), .int (nI 0)])) [.ref (a), .ref (w0), .int (x1)]) (qWV none (fun H1 => va_at G.1 vwCl (a, .inr (8, [.ref (w0), .int (x1), .int (nI 0), .int (nI 0)])) H1) A) 0 0 A := by
  refine Met.ofW (cc := cX5_init) (maxL := 3) (ret := none) (by decide) rfl ?_
  intro p e s m args below meth c s₁ B hml hv
  obtain ⟨rfl, hC, hat, hAa, hsz⟩ := hv
  have hx := B.exec
  have hb := B.bytes
  have hr := B.returns
  have hts := atoms_spec (ws := wsX5_init) B.pre
  have hown : s.vm.findClass RX5 = some m.cls := findClass_of_methodNamed B.named
  have hlocks := B.notSynchronized
  have hin2 : meth.name = "<init>" := (name_of_methodNamed B.named B.method).1
  have hS : va_S A s.heap s.heap [] := va_S.rf
  have hl := lv_entry ([.ref (a), .ref (w0), .int (x1)]) (n := 3) (Nat.le_of_ble_eq_true rfl)
  rw [lg_entry_eq]
  generalize (lg_sl ([.ref (a), .ref (w0), .int (x1)]) ++ List.replicate (3 - (lg_sl ([.ref (a), .ref (w0), .int (x1)])).length) Slot.unset).toArray = ls at hl ⊢
  have hl : lv_has ls 3 [(0, .ref (a)), (1, .ref (w0)), (2, .int (x1))] := hl
  subst hsz
  have iRX5 : ∀ w ∈ wsX50, w ∈ wsX5_init := by decide +kernel
  refine lv_aload_n hx hb dX5_init_0 rfl (lv_at hl 0 rfl) ?_
  refine W.objInit hx hb hown (hts (.methodLink RX5 1 objectInit) (List.mem_of_getElem? (i := 1) (by decide +kernel))) (hts (.instanceMethod objectInit) (List.mem_of_getElem? (i := 2) (by decide +kernel))) (hts _ (List.mem_of_getElem? (i := 3) (by decide +kernel))) rfl (hl.1.trans hml.symm) rfl dX5_init_1 (Nat.le_of_ble_eq_true rfl) (Nat.le_of_ble_eq_true rfl) ?_
  refine lv_aload_n hx hb dX5_init_4 rfl (lv_at hl 0 rfl) ?_
  refine lv_aload_n hx hb dX5_init_5 rfl (lv_at hl 1 rfl) ?_
  refine q_putF (C := RX5) (T := TX5) (N := 4) (ty := .object "LogWeave$Filter") (v := .ref (w0)) hx hb hts iRX5 tyX5 tyX5_ok nmX5 hown hC.1 hat hAa hS rfl 0 (by decide) (hts (.fieldLink RX5 7 "LogWeave$Request" "filter" "LLogWeave$Filter;") (List.mem_of_getElem? (i := 4) (by decide +kernel))) rfl rfl hin2 rfl (by decide +kernel) rfl rfl (Nat.le_of_ble_eq_true rfl) dX5_init_6 (fun H locs hat hz1 hoq hS => ?_)
  have hat : va_at G.1 vwCl (a, .inr (8, [.ref (w0), .int (nI 0), .int (nI 0), .int (nI 0)])) H := hat
  refine lv_aload_n hx hb dX5_init_9 rfl (lv_at hl 0 rfl) ?_
  refine lv_iload_n hx hb dX5_init_10 rfl (lv_at hl 2 rfl) ?_
  refine q_putF (C := RX5) (T := TX5) (N := 4) (ty := .int) (v := .int (x1)) hx hb hts iRX5 tyX5 tyX5_ok nmX5 hown hC.1 hat hAa hS rfl 1 (by decide) (hts (.fieldLink RX5 13 "LogWeave$Request" "due" "I") (List.mem_of_getElem? (i := 5) (by decide +kernel))) rfl rfl hin2 rfl (by decide +kernel) rfl rfl (Nat.le_of_ble_eq_true rfl) dX5_init_11 (fun H locs hat hz1 hoq hS => ?_)
  have hat : va_at G.1 vwCl (a, .inr (8, [.ref (w0), .int (x1), .int (nI 0), .int (nI 0)])) H := hat
  exact W.vret hx hb hr (fun t ht _ => ⟨rfl, by rw [ht]; exact hat, hS.F ht⟩) hS.2.2 dX5_init_14
