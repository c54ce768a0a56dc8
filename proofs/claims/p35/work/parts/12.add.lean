/-! the list of the library that grows: what its methods ask, and what they leave -/
def qAd (G : QG) (es : Nat) (A : Nat → Prop) (xs ys : va_W) (sz ci mi : Nat) (g : Nat → Option Nat) (av : List Value) : Array Value → State → Prop := va_Pc av (fun U => qCX G U ∧ va_P G.1 vwCl xs U.heap ∧ va_D A xs ∧ va_P G.1 vwCl ys U.heap ∧ qSZ es A U U.heap ∧ (∀ q, sz ≤ q → A q) ∧ U.heap.size = sz ∧ (∀ i y, g i = some y → ¬ A y ∧ ∃ fs, va_at G.1 vwCl (y, .inr (ci, fs)) U.heap) ∧ va_Mi "[Ljava/lang/Object;" mi U)
theorem qAd.blind {G : QG} {es : Nat} {A : Nat → Prop} {xs ys : va_W} {sz ci mi : Nat} {g : Nat → Option Nat} {av : List Value} : FrameBlind (qAd G es A xs ys sz ci mi g av) := fun a U gg mk q => ⟨q.1, q.2.1.blind, q.2.2.1, q.2.2.2.1, q.2.2.2.2.1, q.2.2.2.2.2.1.blind, q.2.2.2.2.2.2.1, q.2.2.2.2.2.2.2.1, q.2.2.2.2.2.2.2.2.1, va_Mi.moved (u := U) (U := U.calling gg mk a) (Vm.Alike.refl U.vm) q.2.2.2.2.2.2.2.2.2⟩
theorem qAd.pre {G : QG} {es : Nat} {A A0 : Nat → Prop} {xs ys : va_W} {sz ci mi : Nat} {g : Nat → Option Nat} {av : List Value} {s : State} {H : Heap} {locs : List Loc} (hC : qCX G s) (hP : va_P G.1 vwCl xs H) (hD : va_D A xs) (hY : va_P G.1 vwCl ys H) (hZ : qSZ es A0 s s.heap) (hS : va_S A0 s.heap H locs) (hAA : ∀ q, A q → A0 q) (hA : ∀ q, sz ≤ q → A q) (hsz : H.size = sz) (hE : ∀ i y, g i = some y → ¬ A y ∧ ∃ fs, va_at G.1 vwCl (y, .inr (ci, fs)) H) (hM : va_Mi "[Ljava/lang/Object;" mi s) : ∀ U : State, U.heap = H → s.WarmedH U.vm → qAd G es A xs ys sz ci mi g av av.toArray U :=
  fun U hU hW => ⟨rfl, hC.warm hW, by rw [hU]; exact hP, hD, by rw [hU]; exact hY, by rw [hU]; exact ((hZ.kept hS.2.1).narrow hAA).moved hW.alike, hA, by rw [hU]; exact hsz, by rw [hU]; exact hE, va_Mi.moved hW.alike hM⟩
theorem q_anyO {G : QG} {s : State} {H : Heap} {y ci : Nat} {fs : List Value} {r : vw_C} (hC : qCX G s) (hat : va_at G.1 vwCl (y, .inr (ci, fs)) H) (hr : vwCl[ci]? = some r) (hca : va_Nw (.castable r.1 "java/lang/Object") s) : va_Any "java/lang/Object" s H y :=
  va_rAny hC.1 (va_P1 hat) (q0 := 0) rfl hr (fun comp c0 h1 h2 => by
    obtain ⟨c3, c4, h3, h4, h5⟩ := Cond.castable_spec hca
    cases h1.symm.trans h4
    cases h2.symm.trans h3
    exact h5)
theorem q_cO {G : QG} {s : State} {cA : ClassId} (hC : qCX G s) (hK : va_K G.1 vwCl (qtys G ++ [(cA, .object "java/lang/Object")]) s) : cA = G.2 0 := by
  obtain ⟨-, -, -, -, -, h1⟩ := (hK.2 4 (cA, .object "java/lang/Object") rfl).2
  obtain ⟨-, -, -, -, -, h2⟩ := (hC.1.2 0 (G.2 0, .object "java/lang/Object") rfl).2
  exact Option.some.inj (h1.symm.trans h2)
theorem q_rA {G : QG} {s : State} {H : Heap} {E n : Nat} {f : Nat → Option Nat} (hC : qCX G s) (hat : va_at G.1 vwCl (E, .inl (G.2 0, n, .inr (.inr (.inr (.inr f))))) H) : ∃ cell : Cell, H[E]? = some cell ∧ cell.vm.isStatics = false ∧ s.vm.findClass "[Ljava/lang/Object;" = some cell.cls := by
  obtain ⟨-, -, -, -, -, h2⟩ := (hC.1.2 0 (G.2 0, .object "java/lang/Object") rfl).2
  exact ⟨_, hat, rfl, h2⟩
set_option maxHeartbeats 4000000 in
set_option maxRecDepth 100000 in
theorem m_newLength (l : Launch) (n : Nat) (hn : 2 ≤ n) (hn2 : n ≤ 4000) : Met l yJ8_newLength_cabcc wsJ8_newLength_cabcc ({ frames := 1, cells := 0, slots := 0, locals := 15 } : Room) (qU [.int (nI n), .int (nI 1), .int (nI (n / 2))]) (qPV (some (.int (nI (n + n / 2))))) 0 0 (fun _ => False) := by
  refine Met.ofW (cc := cJ8_newLength_cabcc) (maxL := 4) (ret := (some .int)) (by decide) rfl ?_
  intro p e s m args below meth c s₁ B hml hv
  obtain ⟨rfl, -⟩ := hv
  have hx := B.exec
  have hb := B.bytes
  have hr := B.returns
  have hts := atoms_spec (ws := wsJ8_newLength_cabcc) B.pre
  have hown : s.vm.findClass RJ8 = some m.cls := findClass_of_methodNamed B.named
  have hlocks := B.notSynchronized
  have hS : va_S (fun _ => False) s.heap s.heap [] := va_S.rf
  have hl := lv_entry ([.int (nI n), .int (nI 1), .int (nI (n / 2))]) (n := 4) (Nat.le_of_ble_eq_true rfl)
  rw [lg_entry_eq]
  generalize (lg_sl ([.int (nI n), .int (nI 1), .int (nI (n / 2))]) ++ List.replicate (4 - (lg_sl ([.int (nI n), .int (nI 1), .int (nI (n / 2))])).length) Slot.unset).toArray = ls at hl ⊢
  have hl : lv_has ls 4 [(0, .int (nI n)), (1, .int (nI 1)), (2, .int (nI (n / 2)))] := hl
  refine lv_iload_n hx hb dJ8_newLength_cabcc_0 rfl (lv_at hl 0 rfl) ?_
  refine lv_iload_n hx hb dJ8_newLength_cabcc_1 rfl (lv_at hl 1 rfl) ?_
  refine lv_iload_n hx hb dJ8_newLength_cabcc_2 rfl (lv_at hl 2 rfl) ?_
  refine va_mmax hx hb (hml.trans hl.1.symm) hown (hts (.methodLink RJ8 194 Lib.Math.max.name) (List.mem_of_getElem? (i := 1) (by decide +kernel))) (hts (.static Lib.Math.max.name) (List.mem_of_getElem? (i := 2) (by decide +kernel))) (hts (.initialized "java/lang/Math") (List.mem_of_getElem? (i := 3) (by decide +kernel))) (hts _ (List.mem_of_getElem? (i := 4) (by decide +kernel))) (Nat.le_of_ble_eq_true rfl) (Nat.le_of_ble_eq_true rfl) (Nat.zero_le _) (Nat.zero_le _) dJ8_newLength_cabcc_3 ?_
  refine q_ti (y := nI (n / 2)) (by rcases Nat.lt_or_ge 1 (n / 2) with k | k; exact if_pos (nI_lt k (by omega)); rw [show n / 2 = 1 by omega]; rfl) ?_
  refine lv_iadd hx hb dJ8_newLength_cabcc_6 ?_
  refine q_ti (nI_add n (n / 2)) ?_
  refine lv_istore_n (lv' := [(3, .int (nI (n + (n / 2)))), (0, .int (nI n)), (1, .int (nI 1)), (2, .int (nI (n / 2)))]) hx hb dJ8_newLength_cabcc_7 rfl hl (by decide) rfl (fun ls hl => ?_)
  refine lv_iconst (v := nI 0) hx hb dJ8_newLength_cabcc_8 (by decide) ?_
  refine lv_iload_n hx hb dJ8_newLength_cabcc_9 rfl (lv_at hl 0 rfl) ?_
  refine q_ge (tgt := 21) hx hb (by decide) (by omega) dJ8_newLength_cabcc_10 (by decide) (fun g1 => (by omega)) (fun g1 => ?_)
  refine lv_iload_n hx hb dJ8_newLength_cabcc_13 rfl (lv_at hl 0 rfl) ?_
  refine lv_ldc (v := nI 2147483639) hx hb hown (hts (.constant RJ8 200 (2147483639)) (List.mem_of_getElem? (i := 5) (by decide +kernel))) dJ8_newLength_cabcc_14 ?_
  refine q_gt (tgt := 21) hx hb (by omega) (by decide) dJ8_newLength_cabcc_16 (by decide) (fun g2 => (by omega)) (fun g2 => ?_)
  refine lv_iload_n hx hb dJ8_newLength_cabcc_19 rfl (lv_at hl 0 rfl) ?_
  exact W.iret hx hb hr (fun t ht _ => ⟨rfl, ht⟩) hS.2.2 dJ8_newLength_cabcc_20
set_option maxHeartbeats 4000000 in
set_option maxRecDepth 100000 in
theorem m_copyOf3 (l : Launch) (G : QG) (es : Nat) (A : Nat → Prop) (ys : va_W) (E n n2 sz mi : Nat) (g : Nat → Option Nat) (hn : n ≤ n2) (hn2 : n2 ≤ 6000) (ci : Nat) (r : vw_C) (hci : vwCl[ci]? = some r) (hca : Cond.castable r.1 "java/lang/Object" ∈ qwords) : Met l yJ7_copyOf_6403c wsJ7_copyOf_6403c ({ frames := 1, cells := 1, slots := n2, locals := 40 } : Room) (qAd G es A [(E, .inl (G.2 0, n, .inr (.inr (.inr (.inr (g))))))] ys sz ci mi g [.ref (E), .int (nI n2), .ref (mi)]) (qWX (fun q H1 => va_P G.1 vwCl [(E, .inl (G.2 0, n, .inr (.inr (.inr (.inr (g)))))), (q, .inl (G.2 0, n2, .inr (.inr (.inr (.inr (va_cpy g (fun _ => none) 0 0 n))))))] H1 ∧ va_D A [(E, .inl (G.2 0, n, .inr (.inr (.inr (.inr (g)))))), (q, .inl (G.2 0, n2, .inr (.inr (.inr (.inr (va_cpy g (fun _ => none) 0 0 n))))))]) A) 1 n2 A := by
  refine Met.ofW (cc := cJ7_copyOf_6403c) (maxL := 4) (ret := (some (.array (.object "java/lang/Object")))) (by decide) rfl ?_
  intro p e s m args below meth c s₁ B hml hv
  obtain ⟨rfl, hC, hP, hD, hY, hZ, hA, hsz, hE, hM⟩ := hv
  have hx := B.exec
  have hb := B.bytes
  have hr := B.returns
  have hts := atoms_spec (ws := wsJ7_copyOf_6403c) B.pre
  have hown : s.vm.findClass RJ7 = some m.cls := findClass_of_methodNamed B.named
  have hlocks := B.notSynchronized
  have hS : va_S A s.heap s.heap [] := va_S.rf
  have hl := lv_entry ([.ref (E), .int (nI n2), .ref (mi)]) (n := 4) (Nat.le_of_ble_eq_true rfl)
  rw [lg_entry_eq]
  generalize (lg_sl ([.ref (E), .int (nI n2), .ref (mi)]) ++ List.replicate (4 - (lg_sl ([.ref (E), .int (nI n2), .ref (mi)])).length) Slot.unset).toArray = ls at hl ⊢
  have hl : lv_has ls 4 [(0, .ref (E)), (1, .int (nI n2)), (2, .ref (mi))] := hl
  subst hsz
  refine lv_aload_n hx hb dJ7_copyOf_6403c_0 rfl (lv_at hl 2 rfl) ?_
  refine va_ldcM hx hb hown (hts (.classLink RJ7 110 "[Ljava/lang/Object;") (List.mem_of_getElem? (i := 1) (by decide +kernel))) hM dJ7_copyOf_6403c_1 ?_
  refine q_acmp_ne (tgt := 13) hx hb dJ7_copyOf_6403c_3 (by decide) (fun g1 => absurd rfl g1) (fun g1 => ?_)
  · skip
    refine lv_iload_n hx hb dJ7_copyOf_6403c_6 rfl (lv_at hl 1 rfl) ?_
    refine va_newq hx hb hown (hts (.classLink RJ7 2 "java/lang/Object") (List.mem_of_getElem? (i := 2) (by decide +kernel))) hC.2.2.1 hC.1 hP hD hS hA (nI_pos (by omega)) (nI_clamp (by omega)) (by omega) (by show 0 + 1 ≤ 1; omega) (by show 0 + n2 ≤ n2; omega) dJ7_copyOf_6403c_7 (fun q cA H hK2 hP hD hS => ?_)
    cases q_cO hC hK2
    have hP : va_P G.1 vwCl [(E, .inl (G.2 0, n, .inr (.inr (.inr (.inr (g)))))), (q, .inl (G.2 0, n2, .inr (.inr (.inr (.inr (fun _ => none))))))] H := hP
    have hD : va_D A [(E, .inl (G.2 0, n, .inr (.inr (.inr (.inr (g)))))), (q, .inl (G.2 0, n2, .inr (.inr (.inr (.inr (fun _ => none))))))] := hD
    refine lv_goto (tgt := 24) hx hb dJ7_copyOf_6403c_10 (by decide) ?_
    refine lv_astore_n (lv' := [(3, .ref (q)), (0, .ref (E)), (1, .int (nI n2)), (2, .ref (mi))]) hx hb dJ7_copyOf_6403c_24 rfl hl (by decide) rfl (fun ls hl => ?_)
    refine lv_aload_n hx hb dJ7_copyOf_6403c_25 rfl (lv_at hl 1 rfl) ?_
    refine lv_iconst (v := nI 0) hx hb dJ7_copyOf_6403c_26 (by decide) ?_
    refine lv_aload_n hx hb dJ7_copyOf_6403c_27 rfl (lv_at hl 0 rfl) ?_
    refine lv_iconst (v := nI 0) hx hb dJ7_copyOf_6403c_28 (by decide) ?_
    refine lv_aload_n hx hb dJ7_copyOf_6403c_29 rfl (lv_at hl 1 rfl) ?_
    refine va_alen hx hb hC.1 hP 0 0 rfl rfl (v := nI n) rfl dJ7_copyOf_6403c_30 ?_
    refine lv_iload_n hx hb dJ7_copyOf_6403c_31 rfl (lv_at hl 2 rfl) ?_
    refine va_mmin hx hb (hml.trans hl.1.symm) hown (hts (.methodLink RJ7 304 Lib.Math.min.name) (List.mem_of_getElem? (i := 3) (by decide +kernel))) (hts (.static Lib.Math.min.name) (List.mem_of_getElem? (i := 4) (by decide +kernel))) (hts (.initialized "java/lang/Math") (List.mem_of_getElem? (i := 5) (by decide +kernel))) (hts _ (List.mem_of_getElem? (i := 6) (by decide +kernel))) (Nat.le_of_ble_eq_true rfl) (Nat.le_of_ble_eq_true rfl) (by show 0 + 1 ≤ 1; omega) (by show 0 + n2 ≤ n2; omega) dJ7_copyOf_6403c_32 ?_
    refine q_ti (y := nI n) (if_neg (nI_nlt hn (by omega))) ?_
    have hE2 : ∀ i y, g i = some y → va_Any "java/lang/Object" s H y := fun i y hy => (hE i y hy).2.elim (fun fs h => q_anyO hC (h.kept (hS.2.1 y h.lt (hE i y hy).1)) hci (hC.N _ hca))
    refine va_copyM hx hb (hml.trans hl.1.symm) hown (hts (.methodLink RJ7 150 arraycopyName) (List.mem_of_getElem? (i := 7) (by decide +kernel))) (hts (.native arraycopyName) (List.mem_of_getElem? (i := 8) (by decide +kernel))) (hts (.static arraycopyName) (List.mem_of_getElem? (i := 9) (by decide +kernel))) (hts (.initialized "java/lang/System") (List.mem_of_getElem? (i := 10) (by decide +kernel))) hC.1 hP hD hS 0 1 0 0 rfl rfl rfl rfl (nI_pos (by decide)) (nI_pos (by decide)) (nI_pos (by omega)) (by rw [nI_clamp (by decide), nI_clamp (by omega)]; omega) (by rw [nI_clamp (by decide), nI_clamp (by omega)]; omega) (fun i _ y hy => hE2 _ y hy) (Nat.le_of_ble_eq_true rfl) (by show _ ≤ 40; decide +kernel) dJ7_copyOf_6403c_35 (fun H locs hP hD hS => ?_)
    rw [nI_clamp (by decide), nI_clamp (by omega)] at hP hD
    refine lv_aload_n hx hb dJ7_copyOf_6403c_38 rfl (lv_at hl 0 rfl) ?_
    refine W.widen (k := 1) (n := n2) (by omega) (by omega) ?_
    exact W.aret hx hb hr (Or.inr ⟨_, rfl⟩) (Or.inr ⟨_, rfl⟩) (fun t ht _ => ⟨q, rfl, by rw [ht]; exact ⟨hP, hD⟩, hS.F ht⟩) hS.2.2 dJ7_copyOf_6403c_39
set_option maxHeartbeats 4000000 in
set_option maxRecDepth 100000 in
theorem m_copyOf2 (l : Launch) (G : QG) (es : Nat) (A : Nat → Prop) (ys : va_W) (E n n2 sz mi : Nat) (g : Nat → Option Nat) (hn : n ≤ n2) (hn2 : n2 ≤ 6000) (ci : Nat) (r : vw_C) (hci : vwCl[ci]? = some r) (hca : Cond.castable r.1 "java/lang/Object" ∈ qwords) : Met l yJ7_copyOf_1904c wsJ7_copyOf_1904c ({ frames := 2, cells := 1, slots := n2, locals := 63 } : Room) (qAd G es A [(E, .inl (G.2 0, n, .inr (.inr (.inr (.inr (g))))))] ys sz ci mi g [.ref (E), .int (nI n2)]) (qWX (fun q H1 => va_P G.1 vwCl [(E, .inl (G.2 0, n, .inr (.inr (.inr (.inr (g)))))), (q, .inl (G.2 0, n2, .inr (.inr (.inr (.inr (va_cpy g (fun _ => none) 0 0 n))))))] H1 ∧ va_D A [(E, .inl (G.2 0, n, .inr (.inr (.inr (.inr (g)))))), (q, .inl (G.2 0, n2, .inr (.inr (.inr (.inr (va_cpy g (fun _ => none) 0 0 n))))))]) A) 1 n2 A := by
  refine Met.ofW (cc := cJ7_copyOf_1904c) (maxL := 2) (ret := (some (.array (.object "java/lang/Object")))) (by decide) rfl ?_
  intro p e s m args below meth c s₁ B hml hv
  obtain ⟨rfl, hC, hP, hD, hY, hZ, hA, hsz, hE, hM⟩ := hv
  have hx := B.exec
  have hb := B.bytes
  have hr := B.returns
  have hts := atoms_spec (ws := wsJ7_copyOf_1904c) B.pre
  have hown : s.vm.findClass RJ7 = some m.cls := findClass_of_methodNamed B.named
  have hlocks := B.notSynchronized
  have hS : va_S A s.heap s.heap [] := va_S.rf
  have hl := lv_entry ([.ref (E), .int (nI n2)]) (n := 2) (Nat.le_of_ble_eq_true rfl)
  rw [lg_entry_eq]
  generalize (lg_sl ([.ref (E), .int (nI n2)]) ++ List.replicate (2 - (lg_sl ([.ref (E), .int (nI n2)])).length) Slot.unset).toArray = ls at hl ⊢
  have hl : lv_has ls 2 [(0, .ref (E)), (1, .int (nI n2))] := hl
  subst hsz
  refine lv_aload_n hx hb dJ7_copyOf_1904c_0 rfl (lv_at hl 0 rfl) ?_
  refine lv_iload_n hx hb dJ7_copyOf_1904c_1 rfl (lv_at hl 1 rfl) ?_
  refine lv_aload_n hx hb dJ7_copyOf_1904c_2 rfl (lv_at hl 0 rfl) ?_
  refine va_getC hx hb (hml.trans hl.1.symm) hown (hts (.methodLink RJ7 86 ⟨"java/lang/Object", "getClass", "()Ljava/lang/Class;"⟩) (List.mem_of_getElem? (i := 1) (by decide +kernel))) (va_Nw.use rfl (hC.N (.declares ⟨"java/lang/Object", "getClass", "()Ljava/lang/Class;"⟩) (by decide +kernel))) (hts (.selects "[Ljava/lang/Object;" ⟨"java/lang/Object", "getClass", "()Ljava/lang/Class;"⟩ ⟨"java/lang/Object", "getClass", "()Ljava/lang/Class;"⟩) (List.mem_of_getElem? (i := 2) (by decide +kernel))) (hts (.instanceMethod ⟨"java/lang/Object", "getClass", "()Ljava/lang/Class;"⟩) (List.mem_of_getElem? (i := 3) (by decide +kernel))) (hts (.native ⟨"java/lang/Object", "getClass", "()Ljava/lang/Class;"⟩) (List.mem_of_getElem? (i := 4) (by decide +kernel))) hM (q_rA hC (hP 0 _ rfl)) (Nat.le_of_ble_eq_true rfl) (Nat.le_of_ble_eq_true rfl) dJ7_copyOf_1904c_3 ?_
  refine q_wx (va_runS (As := [.ref (E), .int (nI n2), .ref (mi)]) (rest := []) ⟨hx, hb, hml, hown, hts⟩ (m_copyOf3 l G es A ys E n n2 s.heap.size mi g hn hn2 ci r hci hca) (va_cwS 3 hts gJ7_copyOf_1904c_J7_copyOf_6403c rfl rfl rfl (by decide +kernel) ⟨Nat.le_of_ble_eq_true rfl, Nat.le_of_ble_eq_true rfl⟩) ⟨qAd.blind, qAd.pre hC hP hD hY hZ hS (fun _ h => h) hA rfl hE hM⟩ rfl rfl hl.1 rfl (lv_room (Nat.le_of_ble_eq_true rfl)) dJ7_copyOf_1904c_6 ⟨by show 0 + 1 ≤ 1; omega, by show 0 + n2 ≤ n2; omega⟩) hS (fun _ h => h) (fun _ h => h) (fun q H locs hB hz hk hS => ?_)
  refine W.widen (k := 1) (n := n2) (by omega) (by omega) ?_
  exact W.aret hx hb hr (Or.inr ⟨_, rfl⟩) (Or.inr ⟨_, rfl⟩) (fun t ht _ => ⟨q, rfl, by rw [ht]; exact hB, hS.F ht⟩) hS.2.2 dJ7_copyOf_1904c_9
set_option maxHeartbeats 4000000 in
set_option maxRecDepth 100000 in
theorem m_growI (l : Launch) (G : QG) (es : Nat) (A : Nat → Prop) (ys : va_W) (a E n sz mi mm : Nat) (g : Nat → Option Nat) (hn : 2 ≤ n) (hn2 : n ≤ 4000) (ci : Nat) (r : vw_C) (hci : vwCl[ci]? = some r) (hca : Cond.castable r.1 "java/lang/Object" ∈ qwords) : Met l yJx4a65c_grow_92f84 wsJx4a65c_grow_92f84 ({ frames := 3, cells := 1, slots := (n + n / 2), locals := 84 } : Room) (qAd G es A [(a, .inr (2, [.int (nI mm), .ref E, .int (nI n)])), (E, .inl (G.2 0, n, .inr (.inr (.inr (.inr (g))))))] ys sz ci mi g [.ref (a), .int (nI (n + 1))]) (qWX (fun q H1 => va_P G.1 vwCl [(a, .inr (2, [.int (nI mm), .ref q, .int (nI n)])), (q, .inl (G.2 0, (n + n / 2), .inr (.inr (.inr (.inr (va_cpy g (fun _ => none) 0 0 n))))))] H1 ∧ va_D A [(a, .inr (2, [.int (nI mm), .ref q, .int (nI n)])), (q, .inl (G.2 0, (n + n / 2), .inr (.inr (.inr (.inr (va_cpy g (fun _ => none) 0 0 n))))))]) A) 1 (n + n / 2) A := by
  refine Met.ofW (cc := cJx4a65c_grow_92f84) (maxL := 4) (ret := (some (.array (.object "java/lang/Object")))) (by decide) rfl ?_
  intro p e s m args below meth c s₁ B hml hv
  obtain ⟨rfl, hC, hP, hD, hY, hZ, hA, hsz, hE, hM⟩ := hv
  have hx := B.exec
  have hb := B.bytes
  have hr := B.returns
  have hts := atoms_spec (ws := wsJx4a65c_grow_92f84) B.pre
  have hown : s.vm.findClass RJx4a65c = some m.cls := findClass_of_methodNamed B.named
  have hlocks := B.notSynchronized
  have hS : va_S A s.heap s.heap [] := va_S.rf
  have hl := lv_entry ([.ref (a), .int (nI (n + 1))]) (n := 4) (Nat.le_of_ble_eq_true rfl)
  rw [lg_entry_eq]
  generalize (lg_sl ([.ref (a), .int (nI (n + 1))]) ++ List.replicate (4 - (lg_sl ([.ref (a), .int (nI (n + 1))])).length) Slot.unset).toArray = ls at hl ⊢
  have hl : lv_has ls 4 [(0, .ref (a)), (1, .int (nI (n + 1)))] := hl
  subst hsz
  have iRJx4a65c : ∀ w ∈ wsJx4a65c0, w ∈ wsJx4a65c_grow_92f84 := by decide +kernel
  refine lv_aload_n hx hb dJx4a65c_grow_92f84_0 rfl (lv_at hl 0 rfl) ?_
  refine va_get (D := G.1) (ci := 2) (v := .ref (E)) (C := RJx4a65c) (T := TJx4a65c) (N := 3) hx hb hts iRJx4a65c hown hC.1 hP 0 rfl rfl 1 (by decide) (hts (.fieldLink RJx4a65c 9 "java/util/ArrayList" "elementData" "[Ljava/lang/Object;") (List.mem_of_getElem? (i := 1) (by decide +kernel))) (fun _ h9 => h9) rfl dJx4a65c_grow_92f84_1 ?_
  refine va_alen hx hb hC.1 hP 1 0 rfl rfl (v := nI n) rfl dJx4a65c_grow_92f84_4 ?_
  refine lv_istore_n (lv' := [(2, .int (nI n)), (0, .ref (a)), (1, .int (nI (n + 1)))]) hx hb dJx4a65c_grow_92f84_5 rfl hl (by decide) rfl (fun ls hl => ?_)
  refine lv_iload_n hx hb dJx4a65c_grow_92f84_6 rfl (lv_at hl 0 rfl) ?_
  refine q_gt0 (tgt := 20) hx hb (by omega) dJx4a65c_grow_92f84_7 (by decide) (fun g1 => ?_) (fun g1 => (by omega))
  refine lv_iload_n hx hb dJx4a65c_grow_92f84_20 rfl (lv_at hl 0 rfl) ?_
  refine lv_iload_n hx hb dJx4a65c_grow_92f84_21 rfl (lv_at hl 2 rfl) ?_
  refine lv_iload_n hx hb dJx4a65c_grow_92f84_22 rfl (lv_at hl 0 rfl) ?_
  refine lv_isub hx hb dJx4a65c_grow_92f84_23 ?_
  refine q_ti (by rw [pk_sub (by omega), Nat.add_sub_cancel_left]) ?_
  refine lv_iload_n hx hb dJx4a65c_grow_92f84_24 rfl (lv_at hl 0 rfl) ?_
  refine lv_iconst (v := nI 1) hx hb dJx4a65c_grow_92f84_25 (by decide) ?_
  refine lv_ishr hx hb dJx4a65c_grow_92f84_26 ?_
  refine q_ti (y := nI (n / 2)) (by rw [pk_shrN (by omega) _ 1 (by decide), Nat.pow_one]) ?_
  refine q_v (va_runS (As := [.int (nI n), .int (nI 1), .int (nI (n / 2))]) (rest := []) ⟨hx, hb, hml, hown, hts⟩ (m_newLength l n hn hn2) (va_cwS 3 hts gJx4a65c_grow_92f84_J8_newLength_cabcc rfl rfl rfl (by decide +kernel) ⟨Nat.le_of_ble_eq_true rfl, Nat.le_of_ble_eq_true rfl⟩) ⟨qU.blind, qU.pre⟩ rfl rfl hl.1 rfl (lv_room (Nat.le_of_ble_eq_true rfl)) dJx4a65c_grow_92f84_27 ⟨by show 0 + 0 ≤ 1; omega, by show 0 + 0 ≤ n + n / 2; omega⟩) hS (fun _ h => h.elim) (fun locs hS => ?_)
  refine lv_istore_n (lv' := [(3, .int (nI (n + n / 2))), (2, .int (nI n)), (0, .ref (a)), (1, .int (nI (n + 1)))]) hx hb dJx4a65c_grow_92f84_30 rfl hl (by decide) rfl (fun ls hl => ?_)
  refine lv_aload_n hx hb dJx4a65c_grow_92f84_31 rfl (lv_at hl 2 rfl) ?_
  refine lv_aload_n hx hb dJx4a65c_grow_92f84_32 rfl (lv_at hl 2 rfl) ?_
  refine va_get (D := G.1) (ci := 2) (v := .ref (E)) (C := RJx4a65c) (T := TJx4a65c) (N := 3) hx hb hts iRJx4a65c hown hC.1 hP 0 rfl rfl 1 (by decide) (hts (.fieldLink RJx4a65c 9 "java/util/ArrayList" "elementData" "[Ljava/lang/Object;") (List.mem_of_getElem? (i := 1) (by decide +kernel))) (fun _ h9 => h9) rfl dJx4a65c_grow_92f84_33 ?_
  refine lv_iload_n hx hb dJx4a65c_grow_92f84_36 rfl (lv_at hl 0 rfl) ?_
  have hPc := hP.sub (ws' := [(E, .inl (G.2 0, n, .inr (.inr (.inr (.inr (g))))))]) [1] rfl
  have hDc := (hD.sub (ws' := [(E, .inl (G.2 0, n, .inr (.inr (.inr (.inr (g))))))]) [1] (by decide) rfl).self (sz := s.heap.size)
  have hFc := va_free (wc := [(E, .inl (G.2 0, n, .inr (.inr (.inr (.inr (g))))))]) hD hS hA [1] rfl
  refine q_wx (va_runS (As := [.ref (E), .int (nI (n + n / 2))]) (rest := [.ref (a)]) ⟨hx, hb, hml, hown, hts⟩ (m_copyOf2 l G es (va_A [(E, .inl (G.2 0, n, .inr (.inr (.inr (.inr (g))))))] s.heap.size) ys E n (n + n / 2) s.heap.size mi g (by omega) (by omega) ci r hci hca) (va_cwS 2 hts gJx4a65c_grow_92f84_J7_copyOf_1904c rfl rfl rfl (by decide +kernel) ⟨Nat.le_of_ble_eq_true rfl, Nat.le_of_ble_eq_true rfl⟩) ⟨qAd.blind, qAd.pre hC hPc hDc hY hZ hS hFc (fun q h => Or.inr h) rfl (fun i y hy => ⟨fun z => (hE i y hy).1 (hFc y z), (hE i y hy).2⟩) hM⟩ rfl rfl hl.1 rfl (lv_room (Nat.le_of_ble_eq_true rfl)) dJx4a65c_grow_92f84_37 ⟨by show 0 + 1 ≤ 1; omega, by show 0 + (n + n / 2) ≤ n + n / 2; omega⟩) hS hFc hFc (fun q H locs hB hz hk hS => ?_)
  obtain ⟨hP1, hD1⟩ := hB
  obtain ⟨hP, hD⟩ := va_join (wr := [(a, .inr (2, [.int (nI mm), .ref E, .int (nI n)]))]) (w1 := [(E, .inl (G.2 0, n, .inr (.inr (.inr (.inr (g)))))), (q, .inl (G.2 0, (n + n / 2), .inr (.inr (.inr (.inr (va_cpy g (fun _ => none) 0 0 n))))))]) hP hD [1] [0] rfl rfl (by decide) (by decide) hk hFc hP1 hD1
  have hP : va_P G.1 vwCl [(a, .inr (2, [.int (nI mm), .ref E, .int (nI n)])), (E, .inl (G.2 0, n, .inr (.inr (.inr (.inr (g)))))), (q, .inl (G.2 0, (n + n / 2), .inr (.inr (.inr (.inr (va_cpy g (fun _ => none) 0 0 n))))))] H := hP
  have hD : va_D A [(a, .inr (2, [.int (nI mm), .ref E, .int (nI n)])), (E, .inl (G.2 0, n, .inr (.inr (.inr (.inr (g)))))), (q, .inl (G.2 0, (n + n / 2), .inr (.inr (.inr (.inr (va_cpy g (fun _ => none) 0 0 n))))))] := hD
  refine lv_dup_x1 hx hb dJx4a65c_grow_92f84_40 rfl rfl ?_
  refine va_put (D := G.1) (ci := 2) (v := .ref (q)) (ty := .array (.object "java/lang/Object")) (C := RJx4a65c) (T := TJx4a65c) (N := 3) hx hb hts iRJx4a65c tyJx4a65c tyJx4a65c_ok nmJx4a65c hown hC.1 hP hD hS 0 rfl rfl 1 (by decide) (hts (.fieldLink RJx4a65c 9 "java/util/ArrayList" "elementData" "[Ljava/lang/Object;") (List.mem_of_getElem? (i := 1) (by decide +kernel))) (fun _ h9 => h9) rfl (by decide +kernel) rfl rfl (Nat.le_of_ble_eq_true rfl) dJx4a65c_grow_92f84_41 (fun H locs hP hD hS => ?_)
  have hP : va_P G.1 vwCl [(a, .inr (2, [.int (nI mm), .ref q, .int (nI n)])), (E, .inl (G.2 0, n, .inr (.inr (.inr (.inr (g)))))), (q, .inl (G.2 0, (n + n / 2), .inr (.inr (.inr (.inr (va_cpy g (fun _ => none) 0 0 n))))))] H := hP
  have hD : va_D A [(a, .inr (2, [.int (nI mm), .ref q, .int (nI n)])), (E, .inl (G.2 0, n, .inr (.inr (.inr (.inr (g)))))), (q, .inl (G.2 0, (n + n / 2), .inr (.inr (.inr (.inr (va_cpy g (fun _ => none) 0 0 n))))))] := hD
  have hB := And.intro (hP.sub (ws' := [(a, .inr (2, [.int (nI mm), .ref q, .int (nI n)])), (q, .inl (G.2 0, (n + n / 2), .inr (.inr (.inr (.inr (va_cpy g (fun _ => none) 0 0 n))))))]) [0, 2] rfl) (hD.sub (ws' := [(a, .inr (2, [.int (nI mm), .ref q, .int (nI n)])), (q, .inl (G.2 0, (n + n / 2), .inr (.inr (.inr (.inr (va_cpy g (fun _ => none) 0 0 n))))))]) [0, 2] (by decide) rfl)
  refine W.widen (k := 1) (n := (n + n / 2)) (by omega) (by omega) ?_
  exact W.aret hx hb hr (Or.inr ⟨_, rfl⟩) (Or.inr ⟨_, rfl⟩) (fun t ht _ => ⟨q, rfl, by rw [ht]; exact hB, hS.F ht⟩) hS.2.2 dJx4a65c_grow_92f84_44
set_option maxHeartbeats 4000000 in
set_option maxRecDepth 100000 in
theorem m_growIF (l : Launch) (G : QG) (es : Nat) (A : Nat → Prop) (ys : va_W) (a sz mi mm : Nat) (ci : Nat) (r : vw_C) (hci : vwCl[ci]? = some r) (hca : Cond.castable r.1 "java/lang/Object" ∈ qwords) : Met l yJx4a65c_grow_92f84 wsJx4a65c_grow_92f84 ({ frames := 1, cells := 1, slots := 10, locals := 16 } : Room) (qAd G es A [(a, .inr (2, [.int (nI mm), .ref es, .int (nI 0)]))] ys sz ci mi (fun _ => none) [.ref (a), .int (nI 1)]) (qWX (fun q H1 => va_P G.1 vwCl [(a, .inr (2, [.int (nI mm), .ref q, .int (nI 0)])), (q, .inl (G.2 0, 10, .inr (.inr (.inr (.inr (fun _ => none))))))] H1 ∧ va_D A [(a, .inr (2, [.int (nI mm), .ref q, .int (nI 0)])), (q, .inl (G.2 0, 10, .inr (.inr (.inr (.inr (fun _ => none))))))]) A) 1 10 A := by
  refine Met.ofW (cc := cJx4a65c_grow_92f84) (maxL := 4) (ret := (some (.array (.object "java/lang/Object")))) (by decide) rfl ?_
  intro p e s m args below meth c s₁ B hml hv
  obtain ⟨rfl, hC, hP, hD, hY, hZ, hA, hsz, hE, hM⟩ := hv
  have hx := B.exec
  have hb := B.bytes
  have hr := B.returns
  have hts := atoms_spec (ws := wsJx4a65c_grow_92f84) B.pre
  have hown : s.vm.findClass RJx4a65c = some m.cls := findClass_of_methodNamed B.named
  have hlocks := B.notSynchronized
  have hS : va_S A s.heap s.heap [] := va_S.rf
  have hl := lv_entry ([.ref (a), .int (nI 1)]) (n := 4) (Nat.le_of_ble_eq_true rfl)
  rw [lg_entry_eq]
  generalize (lg_sl ([.ref (a), .int (nI 1)]) ++ List.replicate (4 - (lg_sl ([.ref (a), .int (nI 1)])).length) Slot.unset).toArray = ls at hl ⊢
  have hl : lv_has ls 4 [(0, .ref (a)), (1, .int (nI 1))] := hl
  subst hsz
  have iRJx4a65c : ∀ w ∈ wsJx4a65c0, w ∈ wsJx4a65c_grow_92f84 := by decide +kernel
  refine lv_aload_n hx hb dJx4a65c_grow_92f84_0 rfl (lv_at hl 0 rfl) ?_
  refine va_get (D := G.1) (ci := 2) (v := .ref (es)) (C := RJx4a65c) (T := TJx4a65c) (N := 3) hx hb hts iRJx4a65c hown hC.1 hP 0 rfl rfl 1 (by decide) (hts (.fieldLink RJx4a65c 9 "java/util/ArrayList" "elementData" "[Ljava/lang/Object;") (List.mem_of_getElem? (i := 1) (by decide +kernel))) (fun _ h9 => h9) rfl dJx4a65c_grow_92f84_1 ?_
  refine va_tlen hx hb hZ.2.1 hS (v := nI 0) rfl dJx4a65c_grow_92f84_4 ?_
  refine lv_istore_n (lv' := [(2, .int (nI 0)), (0, .ref (a)), (1, .int (nI 1))]) hx hb dJx4a65c_grow_92f84_5 rfl hl (by decide) rfl (fun ls hl => ?_)
  refine lv_iload_n hx hb dJx4a65c_grow_92f84_6 rfl (lv_at hl 0 rfl) ?_
  refine q_gt0 (tgt := 20) hx hb (by decide) dJx4a65c_grow_92f84_7 (by decide) (fun g1 => (by omega)) (fun g1 => ?_)
  refine lv_aload_n hx hb dJx4a65c_grow_92f84_10 rfl (lv_at hl 1 rfl) ?_
  refine va_get (D := G.1) (ci := 2) (v := .ref (es)) (C := RJx4a65c) (T := TJx4a65c) (N := 3) hx hb hts iRJx4a65c hown hC.1 hP 0 rfl rfl 1 (by decide) (hts (.fieldLink RJx4a65c 9 "java/util/ArrayList" "elementData" "[Ljava/lang/Object;") (List.mem_of_getElem? (i := 1) (by decide +kernel))) (fun _ h9 => h9) rfl dJx4a65c_grow_92f84_11 ?_
  refine va_gets hx hb hZ.1 hS hown (hts (.fieldLink RJx4a65c 39 "java/util/ArrayList" "DEFAULTCAPACITY_EMPTY_ELEMENTDATA" "[Ljava/lang/Object;") (List.mem_of_getElem? (i := 2) (by decide +kernel))) (fun _ h9 => h9) dJx4a65c_grow_92f84_14 ?_
  refine q_acmp_eq (tgt := 45) hx hb dJx4a65c_grow_92f84_17 (by decide) (fun g1 => ?_) (fun g1 => absurd rfl g1)
  · skip
    refine lv_aload_n hx hb dJx4a65c_grow_92f84_45 rfl (lv_at hl 1 rfl) ?_
    refine lv_bipush (v := nI 10) hx hb dJx4a65c_grow_92f84_46 (by decide) ?_
    refine lv_iload_n hx hb dJx4a65c_grow_92f84_48 rfl (lv_at hl 2 rfl) ?_
    refine va_mmax hx hb (hml.trans hl.1.symm) hown (hts (.methodLink RJx4a65c 79 Lib.Math.max.name) (List.mem_of_getElem? (i := 3) (by decide +kernel))) (hts (.static Lib.Math.max.name) (List.mem_of_getElem? (i := 4) (by decide +kernel))) (hts (.initialized "java/lang/Math") (List.mem_of_getElem? (i := 5) (by decide +kernel))) (hts _ (List.mem_of_getElem? (i := 6) (by decide +kernel))) (Nat.le_of_ble_eq_true rfl) (Nat.le_of_ble_eq_true rfl) (Nat.zero_le _) (Nat.zero_le _) dJx4a65c_grow_92f84_49 ?_
    refine q_ti (y := nI 10) (by decide) ?_
    refine va_newq hx hb hown (hts (.classLink RJx4a65c 7 "java/lang/Object") (List.mem_of_getElem? (i := 7) (by decide +kernel))) hC.2.2.1 hC.1 hP hD hS hA (n := nI 10) (N' := 10) (nI_pos (by decide)) (nI_clamp (by decide)) (by decide) (by show 0 + 1 ≤ 1; omega) (by show 0 + 10 ≤ 10; omega) dJx4a65c_grow_92f84_52 (fun q cA H hK2 hP hD hS => ?_)
    cases q_cO hC hK2
    have hP : va_P G.1 vwCl [(a, .inr (2, [.int (nI mm), .ref es, .int (nI 0)])), (q, .inl (G.2 0, 10, .inr (.inr (.inr (.inr (fun _ => none))))))] H := hP
    have hD : va_D A [(a, .inr (2, [.int (nI mm), .ref es, .int (nI 0)])), (q, .inl (G.2 0, 10, .inr (.inr (.inr (.inr (fun _ => none))))))] := hD
    refine lv_dup_x1 hx hb dJx4a65c_grow_92f84_55 rfl rfl ?_
    refine va_put (D := G.1) (ci := 2) (v := .ref (q)) (ty := .array (.object "java/lang/Object")) (C := RJx4a65c) (T := TJx4a65c) (N := 3) hx hb hts iRJx4a65c tyJx4a65c tyJx4a65c_ok nmJx4a65c hown hC.1 hP hD hS 0 rfl rfl 1 (by decide) (hts (.fieldLink RJx4a65c 9 "java/util/ArrayList" "elementData" "[Ljava/lang/Object;") (List.mem_of_getElem? (i := 1) (by decide +kernel))) (fun _ h9 => h9) rfl (by decide +kernel) rfl rfl (Nat.le_of_ble_eq_true rfl) dJx4a65c_grow_92f84_56 (fun H locs hP hD hS => ?_)
    have hP : va_P G.1 vwCl [(a, .inr (2, [.int (nI mm), .ref q, .int (nI 0)])), (q, .inl (G.2 0, 10, .inr (.inr (.inr (.inr (fun _ => none))))))] H := hP
    have hD : va_D A [(a, .inr (2, [.int (nI mm), .ref q, .int (nI 0)])), (q, .inl (G.2 0, 10, .inr (.inr (.inr (.inr (fun _ => none))))))] := hD
    have hB := And.intro hP hD
    refine W.widen (k := 1) (n := 10) (by omega) (by omega) ?_
    exact W.aret hx hb hr (Or.inr ⟨_, rfl⟩) (Or.inr ⟨_, rfl⟩) (fun t ht _ => ⟨q, rfl, by rw [ht]; exact hB, hS.F ht⟩) hS.2.2 dJx4a65c_grow_92f84_59
set_option maxHeartbeats 4000000 in
set_option maxRecDepth 100000 in
theorem m_grow (l : Launch) (G : QG) (es : Nat) (A : Nat → Prop) (ys : va_W) (a E n sz mi mm : Nat) (g : Nat → Option Nat) (hn : 2 ≤ n) (hn2 : n ≤ 4000) (ci : Nat) (r : vw_C) (hci : vwCl[ci]? = some r) (hca : Cond.castable r.1 "java/lang/Object" ∈ qwords) : Met l yJx4a65c_grow_d5877 wsJx4a65c_grow_d5877 ({ frames := 4, cells := 1, slots := (n + n / 2), locals := 107 } : Room) (qAd G es A [(a, .inr (2, [.int (nI mm), .ref E, .int (nI n)])), (E, .inl (G.2 0, n, .inr (.inr (.inr (.inr (g))))))] ys sz ci mi g [.ref (a)]) (qWX (fun q H1 => va_P G.1 vwCl [(a, .inr (2, [.int (nI mm), .ref q, .int (nI n)])), (q, .inl (G.2 0, (n + n / 2), .inr (.inr (.inr (.inr (va_cpy g (fun _ => none) 0 0 n))))))] H1 ∧ va_D A [(a, .inr (2, [.int (nI mm), .ref q, .int (nI n)])), (q, .inl (G.2 0, (n + n / 2), .inr (.inr (.inr (.inr (va_cpy g (fun _ => none) 0 0 n))))))]) A) 1 (n + n / 2) A := by
  refine Met.ofW (cc := cJx4a65c_grow_d5877) (maxL := 1) (ret := (some (.array (.object "java/lang/Object")))) (by decide) rfl ?_
  intro p e s m args below meth c s₁ B hml hv
  obtain ⟨rfl, hC, hP, hD, hY, hZ, hA, hsz, hE, hM⟩ := hv
  have hx := B.exec
  have hb := B.bytes
  have hr := B.returns
  have hts := atoms_spec (ws := wsJx4a65c_grow_d5877) B.pre
  have hown : s.vm.findClass RJx4a65c = some m.cls := findClass_of_methodNamed B.named
  have hlocks := B.notSynchronized
  have hS : va_S A s.heap s.heap [] := va_S.rf
  have hl := lv_entry ([.ref (a)]) (n := 1) (Nat.le_of_ble_eq_true rfl)
  rw [lg_entry_eq]
  generalize (lg_sl ([.ref (a)]) ++ List.replicate (1 - (lg_sl ([.ref (a)])).length) Slot.unset).toArray = ls at hl ⊢
  have hl : lv_has ls 1 [(0, .ref (a))] := hl
  subst hsz
  have iRJx4a65c : ∀ w ∈ wsJx4a65c0, w ∈ wsJx4a65c_grow_d5877 := by decide +kernel
  refine lv_aload_n hx hb dJx4a65c_grow_d5877_0 rfl (lv_at hl 0 rfl) ?_
  refine lv_aload_n hx hb dJx4a65c_grow_d5877_1 rfl (lv_at hl 0 rfl) ?_
  refine va_get (D := G.1) (ci := 2) (v := .int (nI n)) (C := RJx4a65c) (T := TJx4a65c) (N := 3) hx hb hts iRJx4a65c hown hC.1 hP 0 rfl rfl 2 (by decide) (hts (.fieldLink RJx4a65c 48 "java/util/ArrayList" "size" "I") (List.mem_of_getElem? (i := 1) (by decide +kernel))) (fun _ h9 => h9) rfl dJx4a65c_grow_d5877_2 ?_
  refine lv_iconst (v := nI 1) hx hb dJx4a65c_grow_d5877_5 (by decide) ?_
  refine lv_iadd hx hb dJx4a65c_grow_d5877_6 ?_
  refine q_ti (nI_add n 1) ?_
  refine q_wx (va_runV (As := [.int (nI (n + 1))]) (rest := []) ⟨hx, hb, hml, hown, hts⟩ (m_growI l G es A ys a E n s.heap.size mi mm g hn hn2 ci r hci hca) (cwV 1 hts gJx4a65c_grow_d5877_Jx4a65c_grow_92f84 rfl rfl rfl (by decide +kernel) ⟨Nat.le_of_ble_eq_true rfl, Nat.le_of_ble_eq_true rfl⟩) ⟨qAd.blind, qrecv hC (hP 0 _ rfl) rfl, qAd.pre hC hP hD hY hZ hS (fun _ h => h) hA rfl hE hM⟩ rfl rfl hl.1 rfl (lv_room (Nat.le_of_ble_eq_true rfl)) dJx4a65c_grow_d5877_7 ⟨by show 0 + 1 ≤ 1; omega, by show 0 + (n + n / 2) ≤ (n + n / 2); omega⟩) hS (fun _ h => h) (fun _ h => h) (fun q H locs hB hz hk hS => ?_)
  refine W.widen (k := 1) (n := (n + n / 2)) (by omega) (by omega) ?_
  exact W.aret hx hb hr (Or.inr ⟨_, rfl⟩) (Or.inr ⟨_, rfl⟩) (fun t ht _ => ⟨q, rfl, by rw [ht]; exact hB, hS.F ht⟩) hS.2.2 dJx4a65c_grow_d5877_10
set_option maxHeartbeats 4000000 in
set_option maxRecDepth 100000 in
theorem m_growF (l : Launch) (G : QG) (es : Nat) (A : Nat → Prop) (ys : va_W) (a sz mi mm : Nat) (ci : Nat) (r : vw_C) (hci : vwCl[ci]? = some r) (hca : Cond.castable r.1 "java/lang/Object" ∈ qwords) : Met l yJx4a65c_grow_d5877 wsJx4a65c_grow_d5877 ({ frames := 2, cells := 1, slots := 10, locals := 39 } : Room) (qAd G es A [(a, .inr (2, [.int (nI mm), .ref es, .int (nI 0)]))] ys sz ci mi (fun _ => none) [.ref (a)]) (qWX (fun q H1 => va_P G.1 vwCl [(a, .inr (2, [.int (nI mm), .ref q, .int (nI 0)])), (q, .inl (G.2 0, 10, .inr (.inr (.inr (.inr (fun _ => none))))))] H1 ∧ va_D A [(a, .inr (2, [.int (nI mm), .ref q, .int (nI 0)])), (q, .inl (G.2 0, 10, .inr (.inr (.inr (.inr (fun _ => none))))))]) A) 1 10 A := by
  refine Met.ofW (cc := cJx4a65c_grow_d5877) (maxL := 1) (ret := (some (.array (.object "java/lang/Object")))) (by decide) rfl ?_
  intro p e s m args below meth c s₁ B hml hv
  obtain ⟨rfl, hC, hP, hD, hY, hZ, hA, hsz, hE, hM⟩ := hv
  have hx := B.exec
  have hb := B.bytes
  have hr := B.returns
  have hts := atoms_spec (ws := wsJx4a65c_grow_d5877) B.pre
  have hown : s.vm.findClass RJx4a65c = some m.cls := findClass_of_methodNamed B.named
  have hlocks := B.notSynchronized
  have hS : va_S A s.heap s.heap [] := va_S.rf
  have hl := lv_entry ([.ref (a)]) (n := 1) (Nat.le_of_ble_eq_true rfl)
  rw [lg_entry_eq]
  generalize (lg_sl ([.ref (a)]) ++ List.replicate (1 - (lg_sl ([.ref (a)])).length) Slot.unset).toArray = ls at hl ⊢
  have hl : lv_has ls 1 [(0, .ref (a))] := hl
  subst hsz
  have iRJx4a65c : ∀ w ∈ wsJx4a65c0, w ∈ wsJx4a65c_grow_d5877 := by decide +kernel
  refine lv_aload_n hx hb dJx4a65c_grow_d5877_0 rfl (lv_at hl 0 rfl) ?_
  refine lv_aload_n hx hb dJx4a65c_grow_d5877_1 rfl (lv_at hl 0 rfl) ?_
  refine va_get (D := G.1) (ci := 2) (v := .int (nI 0)) (C := RJx4a65c) (T := TJx4a65c) (N := 3) hx hb hts iRJx4a65c hown hC.1 hP 0 rfl rfl 2 (by decide) (hts (.fieldLink RJx4a65c 48 "java/util/ArrayList" "size" "I") (List.mem_of_getElem? (i := 1) (by decide +kernel))) (fun _ h9 => h9) rfl dJx4a65c_grow_d5877_2 ?_
  refine lv_iconst (v := nI 1) hx hb dJx4a65c_grow_d5877_5 (by decide) ?_
  refine lv_iadd hx hb dJx4a65c_grow_d5877_6 ?_
  refine q_ti (nI_add 0 1) ?_
  refine q_ti (y := nI 1) rfl ?_
  refine q_wx (va_runV (As := [.int (nI 1)]) (rest := []) ⟨hx, hb, hml, hown, hts⟩ (m_growIF l G es A ys a s.heap.size mi mm ci r hci hca) (cwV 1 hts gJx4a65c_grow_d5877_Jx4a65c_grow_92f84 rfl rfl rfl (by decide +kernel) ⟨Nat.le_of_ble_eq_true rfl, Nat.le_of_ble_eq_true rfl⟩) ⟨qAd.blind, qrecv hC (hP 0 _ rfl) rfl, qAd.pre hC hP hD hY hZ hS (fun _ h => h) hA rfl hE hM⟩ rfl rfl hl.1 rfl (lv_room (Nat.le_of_ble_eq_true rfl)) dJx4a65c_grow_d5877_7 ⟨by show 0 + 1 ≤ 1; omega, by show 0 + 10 ≤ 10; omega⟩) hS (fun _ h => h) (fun _ h => h) (fun q H locs hB hz hk hS => ?_)
  refine W.widen (k := 1) (n := 10) (by omega) (by omega) ?_
  exact W.aret hx hb hr (Or.inr ⟨_, rfl⟩) (Or.inr ⟨_, rfl⟩) (fun t ht _ => ⟨q, rfl, by rw [ht]; exact hB, hS.F ht⟩) hS.2.2 dJx4a65c_grow_d5877_10
set_option maxHeartbeats 4000000 in
set_option maxRecDepth 100000 in
theorem m_add3 (l : Launch) (G : QG) (es : Nat) (A : Nat → Prop) (a E n cz sz mi mm : Nat) (g : Nat → Option Nat) (hcn : cz < n) (hn2 : n ≤ 4000) (ci : Nat) (r : vw_C) (hci : vwCl[ci]? = some r) (hca : Cond.castable r.1 "java/lang/Object" ∈ qwords) (v : Nat) (vs : List Value) : Met l yJx4a65c_add_72be8 wsJx4a65c_add_72be8 ({ frames := 0, cells := 0, slots := 0, locals := 0 } : Room) (qAd G es A [(a, .inr (2, [.int (nI mm), .ref E, .int (nI cz)])), (E, .inl (G.2 0, n, .inr (.inr (.inr (.inr (g))))))] [(v, .inr (ci, vs))] sz ci mi g [.ref (a), .ref (v), .ref (E), .int (nI cz)]) (qWV none (fun H1 => va_P G.1 vwCl [(a, .inr (2, [.int (nI mm), .ref E, .int (nI (cz + 1))])), (E, .inl (G.2 0, n, .inr (.inr (.inr (.inr (va_up g cz (some v)))))))] H1 ∧ va_D A [(a, .inr (2, [.int (nI mm), .ref E, .int (nI (cz + 1))])), (E, .inl (G.2 0, n, .inr (.inr (.inr (.inr (va_up g cz (some v)))))))]) A) 0 0 A := by
  refine Met.ofW (cc := cJx4a65c_add_72be8) (maxL := 4) (ret := none) (by decide) rfl ?_
  intro p e s m args below meth c s₁ B hml hv
  obtain ⟨rfl, hC, hP, hD, hY, hZ, hA, hsz, hE, hM⟩ := hv
  have hx := B.exec
  have hb := B.bytes
  have hr := B.returns
  have hts := atoms_spec (ws := wsJx4a65c_add_72be8) B.pre
  have hown : s.vm.findClass RJx4a65c = some m.cls := findClass_of_methodNamed B.named
  have hlocks := B.notSynchronized
  have hS : va_S A s.heap s.heap [] := va_S.rf
  have hl := lv_entry ([.ref (a), .ref (v), .ref (E), .int (nI cz)]) (n := 4) (Nat.le_of_ble_eq_true rfl)
  rw [lg_entry_eq]
  generalize (lg_sl ([.ref (a), .ref (v), .ref (E), .int (nI cz)]) ++ List.replicate (4 - (lg_sl ([.ref (a), .ref (v), .ref (E), .int (nI cz)])).length) Slot.unset).toArray = ls at hl ⊢
  have hl : lv_has ls 4 [(0, .ref (a)), (1, .ref (v)), (2, .ref (E)), (3, .int (nI cz))] := hl
  subst hsz
  have iRJx4a65c : ∀ w ∈ wsJx4a65c0, w ∈ wsJx4a65c_add_72be8 := by decide +kernel
  refine lv_iload_n hx hb dJx4a65c_add_72be8_0 rfl (lv_at hl 3 rfl) ?_
  refine lv_aload_n hx hb dJx4a65c_add_72be8_1 rfl (lv_at hl 2 rfl) ?_
  refine va_alen hx hb hC.1 hP 1 0 rfl rfl (v := nI n) rfl dJx4a65c_add_72be8_2 ?_
  refine q_ne (tgt := 11) hx hb (by omega) (by omega) dJx4a65c_add_72be8_3 (by decide) (fun g1 => ?_) (fun g1 => (by omega))
  refine lv_aload_n hx hb dJx4a65c_add_72be8_11 rfl (lv_at hl 2 rfl) ?_
  refine lv_iload_n hx hb dJx4a65c_add_72be8_12 rfl (lv_at hl 3 rfl) ?_
  refine lv_aload_n hx hb dJx4a65c_add_72be8_13 rfl (lv_at hl 1 rfl) ?_
  refine va_astqM hx hb hC.1 hP hD hS 1 0 rfl rfl (q_anyO hC (hY 0 _ rfl) hci (hC.N _ hca)) (vp_in_nI (by omega) (by omega)) dJx4a65c_add_72be8_14 (fun H locs hP hD hS => ?_)
  rw [nI_clamp (by omega)] at hP hD
  have hP : va_P G.1 vwCl [(a, .inr (2, [.int (nI mm), .ref E, .int (nI cz)])), (E, .inl (G.2 0, n, .inr (.inr (.inr (.inr (va_up g cz (some v)))))))] H := hP
  have hD : va_D A [(a, .inr (2, [.int (nI mm), .ref E, .int (nI cz)])), (E, .inl (G.2 0, n, .inr (.inr (.inr (.inr (va_up g cz (some v)))))))] := hD
  refine lv_aload_n hx hb dJx4a65c_add_72be8_15 rfl (lv_at hl 0 rfl) ?_
  refine lv_iload_n hx hb dJx4a65c_add_72be8_16 rfl (lv_at hl 3 rfl) ?_
  refine lv_iconst (v := nI 1) hx hb dJx4a65c_add_72be8_17 (by decide) ?_
  refine lv_iadd hx hb dJx4a65c_add_72be8_18 ?_
  refine q_ti (nI_add cz 1) ?_
  refine va_put (D := G.1) (ci := 2) (v := .int (nI (cz + 1))) (ty := .int) (C := RJx4a65c) (T := TJx4a65c) (N := 3) hx hb hts iRJx4a65c tyJx4a65c tyJx4a65c_ok nmJx4a65c hown hC.1 hP hD hS 0 rfl rfl 2 (by decide) (hts (.fieldLink RJx4a65c 48 "java/util/ArrayList" "size" "I") (List.mem_of_getElem? (i := 1) (by decide +kernel))) (fun _ h9 => h9) rfl (by decide +kernel) rfl rfl (Nat.le_of_ble_eq_true rfl) dJx4a65c_add_72be8_19 (fun H locs hP hD hS => ?_)
  have hP : va_P G.1 vwCl [(a, .inr (2, [.int (nI mm), .ref E, .int (nI (cz + 1))])), (E, .inl (G.2 0, n, .inr (.inr (.inr (.inr (va_up g cz (some v)))))))] H := hP
  have hD : va_D A [(a, .inr (2, [.int (nI mm), .ref E, .int (nI (cz + 1))])), (E, .inl (G.2 0, n, .inr (.inr (.inr (.inr (va_up g cz (some v)))))))] := hD
  have hB := And.intro hP hD
  exact W.vret hx hb hr (fun t ht hW => ⟨rfl, by rw [ht]; exact hB, hS.F ht⟩) hS.2.2 dJx4a65c_add_72be8_22
set_option maxHeartbeats 4000000 in
set_option maxRecDepth 100000 in
theorem m_add3G (l : Launch) (G : QG) (es : Nat) (A : Nat → Prop) (a E n sz mi mm : Nat) (g : Nat → Option Nat) (hn : 2 ≤ n) (hn2 : n ≤ 4000) (ci : Nat) (r : vw_C) (hci : vwCl[ci]? = some r) (hca : Cond.castable r.1 "java/lang/Object" ∈ qwords) (v : Nat) (vs : List Value) (hvA : ¬ A v) : Met l yJx4a65c_add_72be8 wsJx4a65c_add_72be8 ({ frames := 5, cells := 1, slots := (n + n / 2), locals := 127 } : Room) (qAd G es A [(a, .inr (2, [.int (nI mm), .ref E, .int (nI n)])), (E, .inl (G.2 0, n, .inr (.inr (.inr (.inr (g))))))] [(v, .inr (ci, vs))] sz ci mi g [.ref (a), .ref (v), .ref (E), .int (nI n)]) (qWV none (fun H1 => ∃ q, (fun H1 => va_P G.1 vwCl [(a, .inr (2, [.int (nI mm), .ref q, .int (nI (n + 1))])), (q, .inl (G.2 0, (n + n / 2), .inr (.inr (.inr (.inr (va_up (va_cpy g (fun _ => none) 0 0 n) n (some v)))))))] H1 ∧ va_D A [(a, .inr (2, [.int (nI mm), .ref q, .int (nI (n + 1))])), (q, .inl (G.2 0, (n + n / 2), .inr (.inr (.inr (.inr (va_up (va_cpy g (fun _ => none) 0 0 n) n (some v)))))))]) H1) A) 1 (n + n / 2) A := by
  refine Met.ofW (cc := cJx4a65c_add_72be8) (maxL := 4) (ret := none) (by decide) rfl ?_
  intro p e s m args below meth c s₁ B hml hv
  obtain ⟨rfl, hC, hP, hD, hY, hZ, hA, hsz, hE, hM⟩ := hv
  have hx := B.exec
  have hb := B.bytes
  have hr := B.returns
  have hts := atoms_spec (ws := wsJx4a65c_add_72be8) B.pre
  have hown : s.vm.findClass RJx4a65c = some m.cls := findClass_of_methodNamed B.named
  have hlocks := B.notSynchronized
  have hS : va_S A s.heap s.heap [] := va_S.rf
  have hl := lv_entry ([.ref (a), .ref (v), .ref (E), .int (nI n)]) (n := 4) (Nat.le_of_ble_eq_true rfl)
  rw [lg_entry_eq]
  generalize (lg_sl ([.ref (a), .ref (v), .ref (E), .int (nI n)]) ++ List.replicate (4 - (lg_sl ([.ref (a), .ref (v), .ref (E), .int (nI n)])).length) Slot.unset).toArray = ls at hl ⊢
  have hl : lv_has ls 4 [(0, .ref (a)), (1, .ref (v)), (2, .ref (E)), (3, .int (nI n))] := hl
  subst hsz
  have iRJx4a65c : ∀ w ∈ wsJx4a65c0, w ∈ wsJx4a65c_add_72be8 := by decide +kernel
  refine lv_iload_n hx hb dJx4a65c_add_72be8_0 rfl (lv_at hl 3 rfl) ?_
  refine lv_aload_n hx hb dJx4a65c_add_72be8_1 rfl (lv_at hl 2 rfl) ?_
  refine va_alen hx hb hC.1 hP 1 0 rfl rfl (v := nI n) rfl dJx4a65c_add_72be8_2 ?_
  refine q_ne (tgt := 11) hx hb (by omega) (by omega) dJx4a65c_add_72be8_3 (by decide) (fun g1 => absurd rfl g1) (fun g1 => ?_)
  refine lv_aload_n hx hb dJx4a65c_add_72be8_6 rfl (lv_at hl 0 rfl) ?_
  refine q_wx (va_runV (As := []) (rest := []) ⟨hx, hb, hml, hown, hts⟩ (m_grow l G es A [(v, .inr (ci, vs))] a E n s.heap.size mi mm g hn hn2 ci r hci hca) (cwV 0 hts gJx4a65c_add_72be8_Jx4a65c_grow_d5877 rfl rfl rfl (by decide +kernel) ⟨Nat.le_of_ble_eq_true rfl, Nat.le_of_ble_eq_true rfl⟩) ⟨qAd.blind, qrecv hC (hP 0 _ rfl) rfl, qAd.pre hC hP hD hY hZ hS (fun _ h => h) hA rfl hE hM⟩ rfl rfl hl.1 rfl (lv_room (Nat.le_of_ble_eq_true rfl)) dJx4a65c_add_72be8_7 ⟨by show 0 + 1 ≤ 1; omega, by show 0 + (n + n / 2) ≤ (n + n / 2); omega⟩) hS (fun _ h => h) (fun _ h => h) (fun q H locs hB hz hk hS => ?_)
  obtain ⟨hP, hD⟩ := hB
  have hYv := (hY 0 _ rfl).kept (hk v (hY 0 _ rfl).lt hvA)
  refine lv_astore_n (lv' := [(2, .ref (q)), (0, .ref (a)), (1, .ref (v)), (3, .int (nI n))]) hx hb dJx4a65c_add_72be8_10 rfl hl (by decide) rfl (fun ls hl => ?_)
  refine lv_aload_n hx hb dJx4a65c_add_72be8_11 rfl (lv_at hl 0 rfl) ?_
  refine lv_iload_n hx hb dJx4a65c_add_72be8_12 rfl (lv_at hl 3 rfl) ?_
  refine lv_aload_n hx hb dJx4a65c_add_72be8_13 rfl (lv_at hl 2 rfl) ?_
  refine va_astqM hx hb hC.1 hP hD hS 1 0 rfl rfl (q_anyO hC hYv hci (hC.N _ hca)) (vp_in_nI (by omega) (by omega)) dJx4a65c_add_72be8_14 (fun H locs hP hD hS => ?_)
  rw [nI_clamp (by omega)] at hP hD
  have hP : va_P G.1 vwCl [(a, .inr (2, [.int (nI mm), .ref q, .int (nI n)])), (q, .inl (G.2 0, (n + n / 2), .inr (.inr (.inr (.inr (va_up (va_cpy g (fun _ => none) 0 0 n) n (some v)))))))] H := hP
  have hD : va_D A [(a, .inr (2, [.int (nI mm), .ref q, .int (nI n)])), (q, .inl (G.2 0, (n + n / 2), .inr (.inr (.inr (.inr (va_up (va_cpy g (fun _ => none) 0 0 n) n (some v)))))))] := hD
  refine lv_aload_n hx hb dJx4a65c_add_72be8_15 rfl (lv_at hl 1 rfl) ?_
  refine lv_iload_n hx hb dJx4a65c_add_72be8_16 rfl (lv_at hl 3 rfl) ?_
  refine lv_iconst (v := nI 1) hx hb dJx4a65c_add_72be8_17 (by decide) ?_
  refine lv_iadd hx hb dJx4a65c_add_72be8_18 ?_
  refine q_ti (nI_add n 1) ?_
  refine va_put (D := G.1) (ci := 2) (v := .int (nI (n + 1))) (ty := .int) (C := RJx4a65c) (T := TJx4a65c) (N := 3) hx hb hts iRJx4a65c tyJx4a65c tyJx4a65c_ok nmJx4a65c hown hC.1 hP hD hS 0 rfl rfl 2 (by decide) (hts (.fieldLink RJx4a65c 48 "java/util/ArrayList" "size" "I") (List.mem_of_getElem? (i := 1) (by decide +kernel))) (fun _ h9 => h9) rfl (by decide +kernel) rfl rfl (Nat.le_of_ble_eq_true rfl) dJx4a65c_add_72be8_19 (fun H locs hP hD hS => ?_)
  have hP : va_P G.1 vwCl [(a, .inr (2, [.int (nI mm), .ref q, .int (nI (n + 1))])), (q, .inl (G.2 0, (n + n / 2), .inr (.inr (.inr (.inr (va_up (va_cpy g (fun _ => none) 0 0 n) n (some v)))))))] H := hP
  have hD : va_D A [(a, .inr (2, [.int (nI mm), .ref q, .int (nI (n + 1))])), (q, .inl (G.2 0, (n + n / 2), .inr (.inr (.inr (.inr (va_up (va_cpy g (fun _ => none) 0 0 n) n (some v)))))))] := hD
  have hB := And.intro hP hD
  refine W.widen (k := 1) (n := (n + n / 2)) (by omega) (by omega) ?_
  exact W.vret hx hb hr (fun t ht hW => ⟨rfl, by rw [ht]; exact ⟨q, hB⟩, hS.F ht⟩) hS.2.2 dJx4a65c_add_72be8_22
set_option maxHeartbeats 4000000 in
set_option maxRecDepth 100000 in
theorem m_add3F (l : Launch) (G : QG) (es : Nat) (A : Nat → Prop) (a sz mi mm : Nat) (ci : Nat) (r : vw_C) (hci : vwCl[ci]? = some r) (hca : Cond.castable r.1 "java/lang/Object" ∈ qwords) (v : Nat) (vs : List Value) (hvA : ¬ A v) : Met l yJx4a65c_add_72be8 wsJx4a65c_add_72be8 ({ frames := 3, cells := 1, slots := 10, locals := 59 } : Room) (qAd G es A [(a, .inr (2, [.int (nI mm), .ref es, .int (nI 0)]))] [(v, .inr (ci, vs))] sz ci mi (fun _ => none) [.ref (a), .ref (v), .ref (es), .int (nI 0)]) (qWV none (fun H1 => ∃ q, (fun H1 => va_P G.1 vwCl [(a, .inr (2, [.int (nI mm), .ref q, .int (nI 1)])), (q, .inl (G.2 0, 10, .inr (.inr (.inr (.inr (va_up (fun _ => none) 0 (some v)))))))] H1 ∧ va_D A [(a, .inr (2, [.int (nI mm), .ref q, .int (nI 1)])), (q, .inl (G.2 0, 10, .inr (.inr (.inr (.inr (va_up (fun _ => none) 0 (some v)))))))]) H1) A) 1 10 A := by
  refine Met.ofW (cc := cJx4a65c_add_72be8) (maxL := 4) (ret := none) (by decide) rfl ?_
  intro p e s m args below meth c s₁ B hml hv
  obtain ⟨rfl, hC, hP, hD, hY, hZ, hA, hsz, hE, hM⟩ := hv
  have hx := B.exec
  have hb := B.bytes
  have hr := B.returns
  have hts := atoms_spec (ws := wsJx4a65c_add_72be8) B.pre
  have hown : s.vm.findClass RJx4a65c = some m.cls := findClass_of_methodNamed B.named
  have hlocks := B.notSynchronized
  have hS : va_S A s.heap s.heap [] := va_S.rf
  have hl := lv_entry ([.ref (a), .ref (v), .ref (es), .int (nI 0)]) (n := 4) (Nat.le_of_ble_eq_true rfl)
  rw [lg_entry_eq]
  generalize (lg_sl ([.ref (a), .ref (v), .ref (es), .int (nI 0)]) ++ List.replicate (4 - (lg_sl ([.ref (a), .ref (v), .ref (es), .int (nI 0)])).length) Slot.unset).toArray = ls at hl ⊢
  have hl : lv_has ls 4 [(0, .ref (a)), (1, .ref (v)), (2, .ref (es)), (3, .int (nI 0))] := hl
  subst hsz
  have iRJx4a65c : ∀ w ∈ wsJx4a65c0, w ∈ wsJx4a65c_add_72be8 := by decide +kernel
  refine lv_iload_n hx hb dJx4a65c_add_72be8_0 rfl (lv_at hl 3 rfl) ?_
  refine lv_aload_n hx hb dJx4a65c_add_72be8_1 rfl (lv_at hl 2 rfl) ?_
  refine va_tlen hx hb hZ.2.1 hS (v := nI 0) rfl dJx4a65c_add_72be8_2 ?_
  refine q_ne (tgt := 11) hx hb (by decide) (by decide) dJx4a65c_add_72be8_3 (by decide) (fun g1 => absurd rfl g1) (fun g1 => ?_)
  refine lv_aload_n hx hb dJx4a65c_add_72be8_6 rfl (lv_at hl 0 rfl) ?_
  refine q_wx (va_runV (As := []) (rest := []) ⟨hx, hb, hml, hown, hts⟩ (m_growF l G es A [(v, .inr (ci, vs))] a s.heap.size mi mm ci r hci hca) (cwV 0 hts gJx4a65c_add_72be8_Jx4a65c_grow_d5877 rfl rfl rfl (by decide +kernel) ⟨Nat.le_of_ble_eq_true rfl, Nat.le_of_ble_eq_true rfl⟩) ⟨qAd.blind, qrecv hC (hP 0 _ rfl) rfl, qAd.pre hC hP hD hY hZ hS (fun _ h => h) hA rfl hE hM⟩ rfl rfl hl.1 rfl (lv_room (Nat.le_of_ble_eq_true rfl)) dJx4a65c_add_72be8_7 ⟨by show 0 + 1 ≤ 1; omega, by show 0 + 10 ≤ 10; omega⟩) hS (fun _ h => h) (fun _ h => h) (fun q H locs hB hz hk hS => ?_)
  obtain ⟨hP, hD⟩ := hB
  have hYv := (hY 0 _ rfl).kept (hk v (hY 0 _ rfl).lt hvA)
  refine lv_astore_n (lv' := [(2, .ref (q)), (0, .ref (a)), (1, .ref (v)), (3, .int (nI 0))]) hx hb dJx4a65c_add_72be8_10 rfl hl (by decide) rfl (fun ls hl => ?_)
  refine lv_aload_n hx hb dJx4a65c_add_72be8_11 rfl (lv_at hl 0 rfl) ?_
  refine lv_iload_n hx hb dJx4a65c_add_72be8_12 rfl (lv_at hl 3 rfl) ?_
  refine lv_aload_n hx hb dJx4a65c_add_72be8_13 rfl (lv_at hl 2 rfl) ?_
  refine va_astqM hx hb hC.1 hP hD hS 1 0 rfl rfl (q_anyO hC hYv hci (hC.N _ hca)) (vp_in_nI (by omega) (by omega)) dJx4a65c_add_72be8_14 (fun H locs hP hD hS => ?_)
  rw [nI_clamp (by omega)] at hP hD
  have hP : va_P G.1 vwCl [(a, .inr (2, [.int (nI mm), .ref q, .int (nI 0)])), (q, .inl (G.2 0, 10, .inr (.inr (.inr (.inr (va_up (fun _ => none) 0 (some v)))))))] H := hP
  have hD : va_D A [(a, .inr (2, [.int (nI mm), .ref q, .int (nI 0)])), (q, .inl (G.2 0, 10, .inr (.inr (.inr (.inr (va_up (fun _ => none) 0 (some v)))))))] := hD
  refine lv_aload_n hx hb dJx4a65c_add_72be8_15 rfl (lv_at hl 1 rfl) ?_
  refine lv_iload_n hx hb dJx4a65c_add_72be8_16 rfl (lv_at hl 3 rfl) ?_
  refine lv_iconst (v := nI 1) hx hb dJx4a65c_add_72be8_17 (by decide) ?_
  refine lv_iadd hx hb dJx4a65c_add_72be8_18 ?_
  refine q_ti (nI_add 0 1) ?_
  refine va_put (D := G.1) (ci := 2) (v := .int (nI (0 + 1))) (ty := .int) (C := RJx4a65c) (T := TJx4a65c) (N := 3) hx hb hts iRJx4a65c tyJx4a65c tyJx4a65c_ok nmJx4a65c hown hC.1 hP hD hS 0 rfl rfl 2 (by decide) (hts (.fieldLink RJx4a65c 48 "java/util/ArrayList" "size" "I") (List.mem_of_getElem? (i := 1) (by decide +kernel))) (fun _ h9 => h9) rfl (by decide +kernel) rfl rfl (Nat.le_of_ble_eq_true rfl) dJx4a65c_add_72be8_19 (fun H locs hP hD hS => ?_)
  have hP : va_P G.1 vwCl [(a, .inr (2, [.int (nI mm), .ref q, .int (nI (0 + 1))])), (q, .inl (G.2 0, 10, .inr (.inr (.inr (.inr (va_up (fun _ => none) 0 (some v)))))))] H := hP
  have hD : va_D A [(a, .inr (2, [.int (nI mm), .ref q, .int (nI (0 + 1))])), (q, .inl (G.2 0, 10, .inr (.inr (.inr (.inr (va_up (fun _ => none) 0 (some v)))))))] := hD
  have hB := And.intro hP hD
  refine W.widen (k := 1) (n := 10) (by omega) (by omega) ?_
  exact W.vret hx hb hr (fun t ht hW => ⟨rfl, by rw [ht]; exact ⟨q, hB⟩, hS.F ht⟩) hS.2.2 dJx4a65c_add_72be8_22
