theorem r_sub {a b : Nat} (h : b ≤ a) : nI a - nI b = nI (a - b) := by
  obtain ⟨d, rfl⟩ : ∃ d, a = d + b := ⟨a - b, by omega⟩
  rw [← nI_add, Int32.add_sub_cancel, Nat.add_sub_cancel]
theorem r_0m {b : Nat} (hb : b < 1073741824) : -1 = nI b - 1 ↔ b = 0 := ⟨fun h => (q_m0 hb).mp h.symm, fun h => ((q_m0 hb).mpr h).symm⟩
theorem r_m1e {a b : Nat} (ha : a < 1073741824) (hb : b < 1073741824) : nI a = nI b - 1 ↔ b = a + 1 := ⟨fun h => (q_m1 hb ha).mp h.symm, fun h => ((q_m1 hb ha).mpr h).symm⟩
theorem r_nm1 {a : Nat} (ha : a < 1073741824) : nI a = -1 ↔ a + 1 = 0 := ⟨fun h => absurd (((r_m1e (b := 0) ha (by decide)).mp (h.trans r_m1))) (by omega), fun h => absurd h (by omega)⟩
theorem r_lt0 {a : Nat} (ha : a < 1073741824) : nI a - 1 < 0 ↔ a = 0 := by
  constructor
  · intro h
    rcases Nat.eq_zero_or_pos a with z | z
    · exact z
    · rw [q_pred (by omega)] at h
      exact absurd h (fun q => nI_pos (by omega) q)
  · intro h
    rw [h]
    decide
section RR
variable {p : Program} {l : Launch} {e : Env} {R : Room} {s : State} {m : MethodId} {args : Array Value} {below : List Frame} {meth : Method} {c : Code} {H : Heap} {locs : List Loc} {cells slots : Nat} {Q : State → Prop}
variable {cc : ByteArray} {pc : Nat} {ls : Array Slot} {rest : List Value}
theorem r_iflt {x : Int32} {P : Prop} (hP : x < 0 ↔ P) (hexec : p.tables.exec = Jvm.exec) (hb : c.code = cc) {off : Int} {tgt : Nat} (hdg : decode cc pc = .ok (.ifCond .lt off, 3)) (ht : (pc : Int) + off = (tgt : Int))
    (kt : P → W p l e R s m args below meth c H locs cells slots Q (F0 m tgt ls rest)) (kf : ¬ P → W p l e R s m args below meth c H locs cells slots Q (F0 m (pc + 3) ls rest)) : W p l e R s m args below meth c H locs cells slots Q (F0 m pc ls (.int x :: rest)) :=
  lv_if_lt hexec hb hdg ht (fun z => kt (hP.mp z)) (fun z => kf (fun h => z (hP.mpr h)))
end RR
/-- a number that is in range -/
abbrev rIn (x : Int32) (n : Nat) : Prop := ∃ i, i < n ∧ x = nI i
theorem r_in1 {i n : Nat} (hi : i < n) (hn : n < 1073741824) : qB (nI 0 ≤ nI i ∧ nI i ≤ nI n - 1) = 1 := by
  rw [q_pred (by omega)]
  exact qB_t ⟨nI_le (by omega) (by omega), nI_le (by omega) (by omega)⟩
theorem r_in0 {x : Int32} {n : Nat} (hn : n < 1073741824) (h : ¬ rIn x n) : qB (nI 0 ≤ x ∧ x ≤ nI n - 1) = 0 := by
  refine qB_f (fun z => h ?_)
  rcases Nat.eq_zero_or_pos n with c | c
  · subst c
    exact absurd (Int32.le_trans z.1 z.2) (by decide)
  · rw [q_pred (by omega)] at z
    have h1 : (0 : Int32) ≤ x := z.1
    have h0 : 0 ≤ x.toInt := by have := Int32.le_iff_toInt_le.mp h1; simpa using this
    have h2 : x.toInt ≤ ((n - 1 : Nat) : Int) := by have := Int32.le_iff_toInt_le.mp z.2; rwa [nI_toInt (by omega)] at this
    refine ⟨x.toInt.toNat, by omega, ?_⟩
    apply Int32.toInt_inj.mp
    rw [nI_toInt (by omega)]
    omega

set_option maxHeartbeats 4000000 in
set_option maxRecDepth 100000 in
theorem m_rin (l : Launch) (x a b : Int32) : Met l yX8_in wsX8_in ({ frames := 0, cells := 0, slots := 0, locals := 0 } : Room) (qU [.int (x), .int (a), .int (b)]) (qPV (some (.int (nI (qB (a ≤ x ∧ x ≤ b)))))) 0 0 (fun _ => False) := by
  refine Met.ofW (cc := cX8_in) (maxL := 3) (ret := (some .boolean)) (by decide) rfl ?_
  intro p e s m args below meth c s₁ B hml hv
  obtain ⟨rfl, -⟩ := hv
  have hx := B.exec
  have hb := B.bytes
  have hr := B.returns
  have hts := atoms_spec (ws := wsX8_in) B.pre
  have hown : s.vm.findClass RX8 = some m.cls := findClass_of_methodNamed B.named
  have hlocks := B.notSynchronized
  have hS : va_S (fun _ => False) s.heap s.heap [] := va_S.rf
  have hl := lv_entry ([.int (x), .int (a), .int (b)]) (n := 3) (Nat.le_of_ble_eq_true rfl)
  rw [lg_entry_eq]
  generalize (lg_sl ([.int (x), .int (a), .int (b)]) ++ List.replicate (3 - (lg_sl ([.int (x), .int (a), .int (b)])).length) Slot.unset).toArray = ls at hl ⊢
  have hl : lv_has ls 3 [(0, .int (x)), (1, .int (a)), (2, .int (b))] := hl
  refine lv_iload_n hx hb dX8_in_0 rfl (lv_at hl 0 rfl) ?_
  refine lv_iload_n hx hb dX8_in_1 rfl (lv_at hl 1 rfl) ?_
  refine lv_icmp_lt (tgt := 14) hx hb dX8_in_2 (by decide) (fun c1 => ?_) (fun c1 => ?_)
  · skip
    refine lv_iconst (v := nI 0) hx hb dX8_in_14 (by decide) ?_
    exact W.zret (v := nI 0) hx hb hr rfl (fun t ht _ => ⟨by rw [qB_f (fun h => absurd h.1 (Int32.not_le.mpr c1))], ht⟩) hS.2.2 dX8_in_15
  · skip
    refine lv_iload_n hx hb dX8_in_5 rfl (lv_at hl 0 rfl) ?_
    refine lv_iload_n hx hb dX8_in_6 rfl (lv_at hl 2 rfl) ?_
    refine lv_icmp_gt (tgt := 14) hx hb dX8_in_7 (by decide) (fun c2 => ?_) (fun c2 => ?_)
    · skip
      refine lv_iconst (v := nI 0) hx hb dX8_in_14 (by decide) ?_
      exact W.zret (v := nI 0) hx hb hr rfl (fun t ht _ => ⟨by rw [qB_f (fun h => absurd h.2 (Int32.not_le.mpr c2))], ht⟩) hS.2.2 dX8_in_15
    · skip
      refine lv_iconst (v := nI 1) hx hb dX8_in_10 (by decide) ?_
      refine lv_goto (tgt := 15) hx hb dX8_in_11 (by decide) ?_
      exact W.zret (v := nI 1) hx hb hr rfl (fun t ht _ => ⟨by rw [qB_t ⟨Int32.not_lt.mp c1, Int32.not_lt.mp c2⟩], ht⟩) hS.2.2 dX8_in_15
set_option maxHeartbeats 4000000 in
set_option maxRecDepth 100000 in
theorem m_risSource (l : Launch) (x : Int32) : Met l yX8_isSource wsX8_isSource ({ frames := 1, cells := 0, slots := 0, locals := 22 } : Room) (qU [.int (x)]) (qPV (some (.int (nI (qB (nI 0 ≤ x ∧ x ≤ nI 3)))))) 0 0 (fun _ => False) := by
  refine Met.ofW (cc := cX8_isSource) (maxL := 1) (ret := (some .boolean)) (by decide) rfl ?_
  intro p e s m args below meth c s₁ B hml hv
  obtain ⟨rfl, -⟩ := hv
  have hx := B.exec
  have hb := B.bytes
  have hr := B.returns
  have hts := atoms_spec (ws := wsX8_isSource) B.pre
  have hown : s.vm.findClass RX8 = some m.cls := findClass_of_methodNamed B.named
  have hlocks := B.notSynchronized
  have hS : va_S (fun _ => False) s.heap s.heap [] := va_S.rf
  have hl := lv_entry ([.int (x)]) (n := 1) (Nat.le_of_ble_eq_true rfl)
  rw [lg_entry_eq]
  generalize (lg_sl ([.int (x)]) ++ List.replicate (1 - (lg_sl ([.int (x)])).length) Slot.unset).toArray = ls at hl ⊢
  have hl : lv_has ls 1 [(0, .int (x))] := hl
  refine lv_iload_n hx hb dX8_isSource_0 rfl (lv_at hl 0 rfl) ?_
  refine lv_iconst (v := nI 0) hx hb dX8_isSource_1 (by decide) ?_
  refine lv_iconst (v := nI 3) hx hb dX8_isSource_2 (by decide) ?_
  refine q_v (va_runS (As := [.int (x), .int (nI 0), .int (nI 3)]) (rest := []) ⟨hx, hb, hml, hown, hts⟩ (m_rin l x (nI 0) (nI 3)) (va_cwS 3 hts gX8_isSource_X8_in rfl rfl rfl (by decide +kernel) ⟨Nat.le_of_ble_eq_true rfl, Nat.le_of_ble_eq_true rfl⟩) ⟨qU.blind, qU.pre⟩ rfl rfl hl.1 rfl (lv_room (Nat.le_of_ble_eq_true rfl)) dX8_isSource_3 ⟨Nat.le_of_ble_eq_true rfl, Nat.le_of_ble_eq_true rfl⟩) hS (fun _ h => h.elim) (fun locs hS => ?_)
  exact W.zret hx hb hr (q_nbool _ qB_le) (fun t ht _ => ⟨rfl, ht⟩) hS.2.2 dX8_isSource_6
set_option maxHeartbeats 4000000 in
set_option maxRecDepth 100000 in
theorem m_risRank (l : Launch) (x : Int32) : Met l yX8_isRank wsX8_isRank ({ frames := 1, cells := 0, slots := 0, locals := 22 } : Room) (qU [.int (x)]) (qPV (some (.int (nI (qB (nI 0 ≤ x ∧ x ≤ nI 4)))))) 0 0 (fun _ => False) := by
  refine Met.ofW (cc := cX8_isRank) (maxL := 1) (ret := (some .boolean)) (by decide) rfl ?_
  intro p e s m args below meth c s₁ B hml hv
  obtain ⟨rfl, -⟩ := hv
  have hx := B.exec
  have hb := B.bytes
  have hr := B.returns
  have hts := atoms_spec (ws := wsX8_isRank) B.pre
  have hown : s.vm.findClass RX8 = some m.cls := findClass_of_methodNamed B.named
  have hlocks := B.notSynchronized
  have hS : va_S (fun _ => False) s.heap s.heap [] := va_S.rf
  have hl := lv_entry ([.int (x)]) (n := 1) (Nat.le_of_ble_eq_true rfl)
  rw [lg_entry_eq]
  generalize (lg_sl ([.int (x)]) ++ List.replicate (1 - (lg_sl ([.int (x)])).length) Slot.unset).toArray = ls at hl ⊢
  have hl : lv_has ls 1 [(0, .int (x))] := hl
  refine lv_iload_n hx hb dX8_isRank_0 rfl (lv_at hl 0 rfl) ?_
  refine lv_iconst (v := nI 0) hx hb dX8_isRank_1 (by decide) ?_
  refine lv_iconst (v := nI 4) hx hb dX8_isRank_2 (by decide) ?_
  refine q_v (va_runS (As := [.int (x), .int (nI 0), .int (nI 4)]) (rest := []) ⟨hx, hb, hml, hown, hts⟩ (m_rin l x (nI 0) (nI 4)) (va_cwS 3 hts gX8_isRank_X8_in rfl rfl rfl (by decide +kernel) ⟨Nat.le_of_ble_eq_true rfl, Nat.le_of_ble_eq_true rfl⟩) ⟨qU.blind, qU.pre⟩ rfl rfl hl.1 rfl (lv_room (Nat.le_of_ble_eq_true rfl)) dX8_isRank_3 ⟨Nat.le_of_ble_eq_true rfl, Nat.le_of_ble_eq_true rfl⟩) hS (fun _ h => h.elim) (fun locs hS => ?_)
  exact W.zret hx hb hr (q_nbool _ qB_le) (fun t ht _ => ⟨rfl, ht⟩) hS.2.2 dX8_isRank_6
set_option maxHeartbeats 4000000 in
set_option maxRecDepth 100000 in
theorem m_rthrown (l : Launch) (G : QG) (A : Nat → Prop) (ρ bd : QSt) (hF : rWF ρ)  : Met l yX8_thrown wsX8_thrown ({ frames := 0, cells := 0, slots := 0, locals := 0 } : Room) (rR G A ρ bd [.ref (bd 0 0)]) (qPV (some (.int (nI (ρ 2 0))))) 0 0 (fun _ => False) := by
  refine Met.ofW (cc := cX8_thrown) (maxL := 1) (ret := (some .int)) (by decide) rfl ?_
  intro p e s m args below meth c s₁ B hml hv
  obtain ⟨rfl, hC, hW⟩ := hv
  have hx := B.exec
  have hb := B.bytes
  have hr := B.returns
  have hts := atoms_spec (ws := wsX8_thrown) B.pre
  have hown : s.vm.findClass RX8 = some m.cls := findClass_of_methodNamed B.named
  have hlocks := B.notSynchronized
  have hB := hF.1
  have hn := hF.n
  have hS : va_S (fun _ => False) s.heap s.heap [] := va_S.rf
  have hl := lv_entry ([.ref (bd 0 0)]) (n := 1) (Nat.le_of_ble_eq_true rfl)
  rw [lg_entry_eq]
  generalize (lg_sl ([.ref (bd 0 0)]) ++ List.replicate (1 - (lg_sl ([.ref (bd 0 0)])).length) Slot.unset).toArray = ls at hl ⊢
  have hl : lv_has ls 1 [(0, .ref (bd 0 0))] := hl
  have iRX8 : ∀ w ∈ wsX80, w ∈ wsX8_thrown := by decide +kernel
  refine lv_aload_n hx hb dX8_thrown_0 rfl (lv_at hl 0 rfl) ?_
  refine q_get (C := RX8) (T := TX8) (N := 36) hx hb hts iRX8 hown hC.1 (hW.to rLV0) rfl 0 (by decide) (hts (.fieldLink RX8 100 "LogWeaveModel" "thrown" "I") (List.mem_of_getElem? (i := 1) (by decide +kernel))) rfl (v := .int (nI (ρ 2 0))) rfl dX8_thrown_1 ?_
  exact W.iret hx hb hr (fun t ht _ => ⟨rfl, ht⟩) hS.2.2 dX8_thrown_4
set_option maxHeartbeats 4000000 in
set_option maxRecDepth 100000 in
theorem m_rfails0 (l : Launch) (G : QG) (A : Nat → Prop) (ρ bd : QSt) (hF : rWF ρ) (k : Nat) (h0 : ρ 2 0 = 0) : Met l yX8_fails wsX8_fails ({ frames := 0, cells := 0, slots := 0, locals := 0 } : Room) (rR G A ρ bd [.ref (bd 0 0), .int (nI 0), .int (nI k)]) (qPV (some (.int (nI 0)))) 0 0 (fun _ => False) := by
  refine Met.ofW (cc := cX8_fails) (maxL := 3) (ret := (some .boolean)) (by decide) rfl ?_
  intro p e s m args below meth c s₁ B hml hv
  obtain ⟨rfl, hC, hW⟩ := hv
  have hx := B.exec
  have hb := B.bytes
  have hr := B.returns
  have hts := atoms_spec (ws := wsX8_fails) B.pre
  have hown : s.vm.findClass RX8 = some m.cls := findClass_of_methodNamed B.named
  have hlocks := B.notSynchronized
  have hB := hF.1
  have hn := hF.n
  have hS : va_S (fun _ => False) s.heap s.heap [] := va_S.rf
  have hl := lv_entry ([.ref (bd 0 0), .int (nI 0), .int (nI k)]) (n := 3) (Nat.le_of_ble_eq_true rfl)
  rw [lg_entry_eq]
  generalize (lg_sl ([.ref (bd 0 0), .int (nI 0), .int (nI k)]) ++ List.replicate (3 - (lg_sl ([.ref (bd 0 0), .int (nI 0), .int (nI k)])).length) Slot.unset).toArray = ls at hl ⊢
  have hl : lv_has ls 3 [(0, .ref (bd 0 0)), (1, .int (nI 0)), (2, .int (nI k))] := hl
  have iRX8 : ∀ w ∈ wsX80, w ∈ wsX8_fails := by decide +kernel
  refine lv_iload_n hx hb dX8_fails_0 rfl (lv_at hl 1 rfl) ?_
  refine q_eq0 (tgt := 16) hx hb (by decide) dX8_fails_1 (by decide) (fun g1 => ?_) (fun g1 => (by omega))
  refine lv_aload_n hx hb dX8_fails_16 rfl (lv_at hl 0 rfl) ?_
  refine q_get (C := RX8) (T := TX8) (N := 36) hx hb hts iRX8 hown hC.1 (hW.to rLV0) rfl 0 (by decide) (hts (.fieldLink RX8 100 "LogWeaveModel" "thrown" "I") (List.mem_of_getElem? (i := 1) (by decide +kernel))) rfl (v := .int (nI (ρ 2 0))) rfl dX8_fails_17 ?_
  refine q_eq0 (tgt := 27) hx hb (q31 (hB _ _)) dX8_fails_20 (by decide) (fun g2 => ?_) (fun g2 => ?_)
  · skip
    refine lv_iconst (v := nI 0) hx hb dX8_fails_27 (by decide) ?_
    exact W.zret (v := nI 0) hx hb hr rfl (fun t ht _ => ⟨rfl, ht⟩) hS.2.2 dX8_fails_28
  · skip
    refine lv_iconst (v := nI 1) hx hb dX8_fails_23 (by decide) ?_
    refine lv_goto (tgt := 28) hx hb dX8_fails_24 (by decide) ?_
    exact absurd h0 g2
set_option maxHeartbeats 4000000 in
set_option maxRecDepth 100000 in
theorem m_rfails1 (l : Launch) (G : QG) (A : Nat → Prop) (ρ bd : QSt) (hF : rWF ρ) (k : Nat) (hk : k ≠ 0) (hk4 : k < 4) (h0 : ρ 2 0 = 0) : Met l yX8_fails wsX8_fails ({ frames := 0, cells := 0, slots := 0, locals := 0 } : Room) (rR G A ρ bd [.ref (bd 0 0), .int (nI 1), .int (nI k)]) (qWV (some (.int (nI 1))) (rW G A (qup ρ 2 0 k) bd) A) 0 0 A := by
  refine Met.ofW (cc := cX8_fails) (maxL := 3) (ret := (some .boolean)) (by decide) rfl ?_
  intro p e s m args below meth c s₁ B hml hv
  obtain ⟨rfl, hC, hW⟩ := hv
  have hx := B.exec
  have hb := B.bytes
  have hr := B.returns
  have hts := atoms_spec (ws := wsX8_fails) B.pre
  have hown : s.vm.findClass RX8 = some m.cls := findClass_of_methodNamed B.named
  have hlocks := B.notSynchronized
  have hB := hF.1
  have hn := hF.n
  have hS : va_S A s.heap s.heap [] := va_S.rf
  have hl := lv_entry ([.ref (bd 0 0), .int (nI 1), .int (nI k)]) (n := 3) (Nat.le_of_ble_eq_true rfl)
  rw [lg_entry_eq]
  generalize (lg_sl ([.ref (bd 0 0), .int (nI 1), .int (nI k)]) ++ List.replicate (3 - (lg_sl ([.ref (bd 0 0), .int (nI 1), .int (nI k)])).length) Slot.unset).toArray = ls at hl ⊢
  have hl : lv_has ls 3 [(0, .ref (bd 0 0)), (1, .int (nI 1)), (2, .int (nI k))] := hl
  have iRX8 : ∀ w ∈ wsX80, w ∈ wsX8_fails := by decide +kernel
  refine lv_iload_n hx hb dX8_fails_0 rfl (lv_at hl 1 rfl) ?_
  refine q_eq0 (tgt := 16) hx hb (by decide) dX8_fails_1 (by decide) (fun g1 => (by omega)) (fun g1 => ?_)
  refine lv_aload_n hx hb dX8_fails_4 rfl (lv_at hl 0 rfl) ?_
  refine q_get (C := RX8) (T := TX8) (N := 36) hx hb hts iRX8 hown hC.1 (hW.to rLV0) rfl 0 (by decide) (hts (.fieldLink RX8 100 "LogWeaveModel" "thrown" "I") (List.mem_of_getElem? (i := 1) (by decide +kernel))) rfl (v := .int (nI (ρ 2 0))) rfl dX8_fails_5 ?_
  refine q_ne0 (tgt := 16) hx hb (q31 (hB _ _)) dX8_fails_8 (by decide) (fun g2 => ?_) (fun g2 => ?_)
  · skip
    refine lv_aload_n hx hb dX8_fails_16 rfl (lv_at hl 0 rfl) ?_
    refine q_get (C := RX8) (T := TX8) (N := 36) hx hb hts iRX8 hown hC.1 (hW.to rLV0) rfl 0 (by decide) (hts (.fieldLink RX8 100 "LogWeaveModel" "thrown" "I") (List.mem_of_getElem? (i := 1) (by decide +kernel))) rfl (v := .int (nI (ρ 2 0))) rfl dX8_fails_17 ?_
    refine q_eq0 (tgt := 27) hx hb (q31 (hB _ _)) dX8_fails_20 (by decide) (fun g3 => ?_) (fun g3 => ?_)
    · skip
      refine lv_iconst (v := nI 0) hx hb dX8_fails_27 (by decide) ?_
      exact absurd h0 g2
    · skip
      refine lv_iconst (v := nI 1) hx hb dX8_fails_23 (by decide) ?_
      refine lv_goto (tgt := 28) hx hb dX8_fails_24 (by decide) ?_
      exact absurd h0 g2
  · skip
    refine lv_aload_n hx hb dX8_fails_11 rfl (lv_at hl 0 rfl) ?_
    refine lv_iload_n hx hb dX8_fails_12 rfl (lv_at hl 2 rfl) ?_
    refine q_put (C := RX8) (T := TX8) (N := 36) (ty := .int) (v := .int (nI k)) hx hb hts iRX8 tyX8 tyX8_ok nmX8 hown hC.1 (hW.to rLV0) (hW.in rLV0) hS rfl 0 (by decide) (hts (.fieldLink RX8 100 "LogWeaveModel" "thrown" "I") (List.mem_of_getElem? (i := 1) (by decide +kernel))) rfl rfl (by decide +kernel) rfl rfl (Nat.le_of_ble_eq_true rfl) dX8_fails_13 (fun H1 locs hat hsz hoq hS => ?_)
    have hW := hW.upR 2 0 k rfl rLV0 ((rLV0 (ρ := (qup ρ 2 0 k))).trans (by rw [qup_s]; rfl)) hat hoq
    refine lv_aload_n hx hb dX8_fails_16 rfl (lv_at hl 0 rfl) ?_
    refine q_get (C := RX8) (T := TX8) (N := 36) hx hb hts iRX8 hown hC.1 (hW.to rLV0) rfl 0 (by decide) (hts (.fieldLink RX8 100 "LogWeaveModel" "thrown" "I") (List.mem_of_getElem? (i := 1) (by decide +kernel))) rfl (v := .int (nI ((qup ρ 2 0 k) 2 0))) rfl dX8_fails_17 ?_
    refine q_eq0 (tgt := 27) hx hb (by rw [qup_s]; omega) dX8_fails_20 (by decide) (fun g4 => ?_) (fun g4 => ?_)
    · skip
      refine lv_iconst (v := nI 0) hx hb dX8_fails_27 (by decide) ?_
      exact absurd ((qup_s _ _ _ _).symm.trans g4) hk
    · skip
      refine lv_iconst (v := nI 1) hx hb dX8_fails_23 (by decide) ?_
      refine lv_goto (tgt := 28) hx hb dX8_fails_24 (by decide) ?_
      exact W.zret (v := nI 1) hx hb hr (rfl) (fun t ht _ => ⟨rfl, by rw [ht]; exact hW, hS.F ht⟩) hS.2.2 dX8_fails_28
set_option maxHeartbeats 4000000 in
set_option maxRecDepth 100000 in
theorem m_rnoLine0 (l : Launch) (G : QG) (A : Nat → Prop) (ρ bd : QSt) (hF : rWF ρ) (i : Nat) (hi : i < ρ 0 0) : Met l yX8_noLine wsX8_noLine ({ frames := 1, cells := 0, slots := 0, locals := 22 } : Room) (rR G A ρ bd [.ref (bd 0 0), .int (nI i)]) (qPV (some (.int (nI 0)))) 0 0 (fun _ => False) := by
  refine Met.ofW (cc := cX8_noLine) (maxL := 2) (ret := (some .boolean)) (by decide) rfl ?_
  intro p e s m args below meth c s₁ B hml hv
  obtain ⟨rfl, hC, hW⟩ := hv
  have hx := B.exec
  have hb := B.bytes
  have hr := B.returns
  have hts := atoms_spec (ws := wsX8_noLine) B.pre
  have hown : s.vm.findClass RX8 = some m.cls := findClass_of_methodNamed B.named
  have hlocks := B.notSynchronized
  have hB := hF.1
  have hn := hF.n
  have hS : va_S (fun _ => False) s.heap s.heap [] := va_S.rf
  have hl := lv_entry ([.ref (bd 0 0), .int (nI i)]) (n := 2) (Nat.le_of_ble_eq_true rfl)
  rw [lg_entry_eq]
  generalize (lg_sl ([.ref (bd 0 0), .int (nI i)]) ++ List.replicate (2 - (lg_sl ([.ref (bd 0 0), .int (nI i)])).length) Slot.unset).toArray = ls at hl ⊢
  have hl : lv_has ls 2 [(0, .ref (bd 0 0)), (1, .int (nI i))] := hl
  have iRX8 : ∀ w ∈ wsX80, w ∈ wsX8_noLine := by decide +kernel
  refine lv_iload_n hx hb dX8_noLine_0 rfl (lv_at hl 1 rfl) ?_
  refine lv_iconst (v := nI 0) hx hb dX8_noLine_1 (by decide) ?_
  refine lv_aload_n hx hb dX8_noLine_2 rfl (lv_at hl 0 rfl) ?_
  refine q_get (C := RX8) (T := TX8) (N := 36) hx hb hts iRX8 hown hC.1 (hW.to rLV0) rfl 2 (by decide) (hts (.fieldLink RX8 104 "LogWeaveModel" "lines" "I") (List.mem_of_getElem? (i := 1) (by decide +kernel))) rfl (v := .int (nI (ρ 0 0))) rfl dX8_noLine_3 ?_
  refine lv_iconst (v := nI 1) hx hb dX8_noLine_6 (by decide) ?_
  refine lv_isub hx hb dX8_noLine_7 ?_
  refine q_ti (y := nI (ρ 0 0) - 1) rfl ?_
  refine q_v (va_runS (As := [.int (nI i), .int (nI 0), .int (nI (ρ 0 0) - 1)]) (rest := []) ⟨hx, hb, hml, hown, hts⟩ (m_rin l (nI i) (nI 0) (nI (ρ 0 0) - 1)) (va_cwS 3 hts gX8_noLine_X8_in rfl rfl rfl (by decide +kernel) ⟨Nat.le_of_ble_eq_true rfl, Nat.le_of_ble_eq_true rfl⟩) ⟨qU.blind, qU.pre⟩ rfl rfl hl.1 rfl (lv_room (Nat.le_of_ble_eq_true rfl)) dX8_noLine_8 ⟨Nat.le_of_ble_eq_true rfl, Nat.le_of_ble_eq_true rfl⟩) hS (fun _ h => h.elim) (fun locs hS => ?_)
  refine q_ti (y := nI 1) (by rw [r_in1 hi (hB _ _)]) ?_
  refine q_ne0 (tgt := 18) hx hb (by decide) dX8_noLine_11 (by decide) (fun g1 => ?_) (fun g1 => (by omega))
  refine lv_iconst (v := nI 0) hx hb dX8_noLine_18 (by decide) ?_
  exact W.zret (v := nI 0) hx hb hr rfl (fun t ht _ => ⟨rfl, ht⟩) hS.2.2 dX8_noLine_19
set_option maxHeartbeats 4000000 in
set_option maxRecDepth 100000 in
theorem m_rnoLine1 (l : Launch) (G : QG) (A : Nat → Prop) (ρ bd : QSt) (hF : rWF ρ) (x : Int32) (hx0 : ¬ rIn x (ρ 0 0)) : Met l yX8_noLine wsX8_noLine ({ frames := 1, cells := 0, slots := 0, locals := 22 } : Room) (rR G A ρ bd [.ref (bd 0 0), .int (x)]) (qPV (some (.int (nI 1)))) 0 0 (fun _ => False) := by
  refine Met.ofW (cc := cX8_noLine) (maxL := 2) (ret := (some .boolean)) (by decide) rfl ?_
  intro p e s m args below meth c s₁ B hml hv
  obtain ⟨rfl, hC, hW⟩ := hv
  have hx := B.exec
  have hb := B.bytes
  have hr := B.returns
  have hts := atoms_spec (ws := wsX8_noLine) B.pre
  have hown : s.vm.findClass RX8 = some m.cls := findClass_of_methodNamed B.named
  have hlocks := B.notSynchronized
  have hB := hF.1
  have hn := hF.n
  have hS : va_S (fun _ => False) s.heap s.heap [] := va_S.rf
  have hl := lv_entry ([.ref (bd 0 0), .int (x)]) (n := 2) (Nat.le_of_ble_eq_true rfl)
  rw [lg_entry_eq]
  generalize (lg_sl ([.ref (bd 0 0), .int (x)]) ++ List.replicate (2 - (lg_sl ([.ref (bd 0 0), .int (x)])).length) Slot.unset).toArray = ls at hl ⊢
  have hl : lv_has ls 2 [(0, .ref (bd 0 0)), (1, .int (x))] := hl
  have iRX8 : ∀ w ∈ wsX80, w ∈ wsX8_noLine := by decide +kernel
  refine lv_iload_n hx hb dX8_noLine_0 rfl (lv_at hl 1 rfl) ?_
  refine lv_iconst (v := nI 0) hx hb dX8_noLine_1 (by decide) ?_
  refine lv_aload_n hx hb dX8_noLine_2 rfl (lv_at hl 0 rfl) ?_
  refine q_get (C := RX8) (T := TX8) (N := 36) hx hb hts iRX8 hown hC.1 (hW.to rLV0) rfl 2 (by decide) (hts (.fieldLink RX8 104 "LogWeaveModel" "lines" "I") (List.mem_of_getElem? (i := 1) (by decide +kernel))) rfl (v := .int (nI (ρ 0 0))) rfl dX8_noLine_3 ?_
  refine lv_iconst (v := nI 1) hx hb dX8_noLine_6 (by decide) ?_
  refine lv_isub hx hb dX8_noLine_7 ?_
  refine q_ti (y := nI (ρ 0 0) - 1) rfl ?_
  refine q_v (va_runS (As := [.int (x), .int (nI 0), .int (nI (ρ 0 0) - 1)]) (rest := []) ⟨hx, hb, hml, hown, hts⟩ (m_rin l x (nI 0) (nI (ρ 0 0) - 1)) (va_cwS 3 hts gX8_noLine_X8_in rfl rfl rfl (by decide +kernel) ⟨Nat.le_of_ble_eq_true rfl, Nat.le_of_ble_eq_true rfl⟩) ⟨qU.blind, qU.pre⟩ rfl rfl hl.1 rfl (lv_room (Nat.le_of_ble_eq_true rfl)) dX8_noLine_8 ⟨Nat.le_of_ble_eq_true rfl, Nat.le_of_ble_eq_true rfl⟩) hS (fun _ h => h.elim) (fun locs hS => ?_)
  refine q_ti (y := nI 0) (by rw [r_in0 (hB _ _) hx0]) ?_
  refine q_ne0 (tgt := 18) hx hb (by decide) dX8_noLine_11 (by decide) (fun g1 => (by omega)) (fun g1 => ?_)
  refine lv_iconst (v := nI 1) hx hb dX8_noLine_14 (by decide) ?_
  refine lv_goto (tgt := 19) hx hb dX8_noLine_15 (by decide) ?_
  exact W.zret (v := nI 1) hx hb hr rfl (fun t ht _ => ⟨rfl, ht⟩) hS.2.2 dX8_noLine_19
set_option maxHeartbeats 4000000 in
set_option maxRecDepth 100000 in
theorem m_rnoAlert0 (l : Launch) (G : QG) (A : Nat → Prop) (ρ bd : QSt) (hF : rWF ρ) (i : Nat) (hi : i < ρ 0 2) : Met l yX8_noAlert wsX8_noAlert ({ frames := 1, cells := 0, slots := 0, locals := 22 } : Room) (rR G A ρ bd [.ref (bd 0 0), .int (nI i)]) (qPV (some (.int (nI 0)))) 0 0 (fun _ => False) := by
  refine Met.ofW (cc := cX8_noAlert) (maxL := 2) (ret := (some .boolean)) (by decide) rfl ?_
  intro p e s m args below meth c s₁ B hml hv
  obtain ⟨rfl, hC, hW⟩ := hv
  have hx := B.exec
  have hb := B.bytes
  have hr := B.returns
  have hts := atoms_spec (ws := wsX8_noAlert) B.pre
  have hown : s.vm.findClass RX8 = some m.cls := findClass_of_methodNamed B.named
  have hlocks := B.notSynchronized
  have hB := hF.1
  have hn := hF.n
  have hS : va_S (fun _ => False) s.heap s.heap [] := va_S.rf
  have hl := lv_entry ([.ref (bd 0 0), .int (nI i)]) (n := 2) (Nat.le_of_ble_eq_true rfl)
  rw [lg_entry_eq]
  generalize (lg_sl ([.ref (bd 0 0), .int (nI i)]) ++ List.replicate (2 - (lg_sl ([.ref (bd 0 0), .int (nI i)])).length) Slot.unset).toArray = ls at hl ⊢
  have hl : lv_has ls 2 [(0, .ref (bd 0 0)), (1, .int (nI i))] := hl
  have iRX8 : ∀ w ∈ wsX80, w ∈ wsX8_noAlert := by decide +kernel
  refine lv_iload_n hx hb dX8_noAlert_0 rfl (lv_at hl 1 rfl) ?_
  refine lv_iconst (v := nI 0) hx hb dX8_noAlert_1 (by decide) ?_
  refine lv_aload_n hx hb dX8_noAlert_2 rfl (lv_at hl 0 rfl) ?_
  refine q_get (C := RX8) (T := TX8) (N := 36) hx hb hts iRX8 hown hC.1 (hW.to rLV0) rfl 14 (by decide) (hts (.fieldLink RX8 114 "LogWeaveModel" "alerts" "I") (List.mem_of_getElem? (i := 1) (by decide +kernel))) rfl (v := .int (nI (ρ 0 2))) rfl dX8_noAlert_3 ?_
  refine lv_iconst (v := nI 1) hx hb dX8_noAlert_6 (by decide) ?_
  refine lv_isub hx hb dX8_noAlert_7 ?_
  refine q_ti (y := nI (ρ 0 2) - 1) rfl ?_
  refine q_v (va_runS (As := [.int (nI i), .int (nI 0), .int (nI (ρ 0 2) - 1)]) (rest := []) ⟨hx, hb, hml, hown, hts⟩ (m_rin l (nI i) (nI 0) (nI (ρ 0 2) - 1)) (va_cwS 3 hts gX8_noAlert_X8_in rfl rfl rfl (by decide +kernel) ⟨Nat.le_of_ble_eq_true rfl, Nat.le_of_ble_eq_true rfl⟩) ⟨qU.blind, qU.pre⟩ rfl rfl hl.1 rfl (lv_room (Nat.le_of_ble_eq_true rfl)) dX8_noAlert_8 ⟨Nat.le_of_ble_eq_true rfl, Nat.le_of_ble_eq_true rfl⟩) hS (fun _ h => h.elim) (fun locs hS => ?_)
  refine q_ti (y := nI 1) (by rw [r_in1 hi (hB _ _)]) ?_
  refine q_ne0 (tgt := 18) hx hb (by decide) dX8_noAlert_11 (by decide) (fun g1 => ?_) (fun g1 => (by omega))
  refine lv_iconst (v := nI 0) hx hb dX8_noAlert_18 (by decide) ?_
  exact W.zret (v := nI 0) hx hb hr rfl (fun t ht _ => ⟨rfl, ht⟩) hS.2.2 dX8_noAlert_19
set_option maxHeartbeats 4000000 in
set_option maxRecDepth 100000 in
theorem m_rnoAlert1 (l : Launch) (G : QG) (A : Nat → Prop) (ρ bd : QSt) (hF : rWF ρ) (x : Int32) (hx0 : ¬ rIn x (ρ 0 2)) : Met l yX8_noAlert wsX8_noAlert ({ frames := 1, cells := 0, slots := 0, locals := 22 } : Room) (rR G A ρ bd [.ref (bd 0 0), .int (x)]) (qPV (some (.int (nI 1)))) 0 0 (fun _ => False) := by
  refine Met.ofW (cc := cX8_noAlert) (maxL := 2) (ret := (some .boolean)) (by decide) rfl ?_
  intro p e s m args below meth c s₁ B hml hv
  obtain ⟨rfl, hC, hW⟩ := hv
  have hx := B.exec
  have hb := B.bytes
  have hr := B.returns
  have hts := atoms_spec (ws := wsX8_noAlert) B.pre
  have hown : s.vm.findClass RX8 = some m.cls := findClass_of_methodNamed B.named
  have hlocks := B.notSynchronized
  have hB := hF.1
  have hn := hF.n
  have hS : va_S (fun _ => False) s.heap s.heap [] := va_S.rf
  have hl := lv_entry ([.ref (bd 0 0), .int (x)]) (n := 2) (Nat.le_of_ble_eq_true rfl)
  rw [lg_entry_eq]
  generalize (lg_sl ([.ref (bd 0 0), .int (x)]) ++ List.replicate (2 - (lg_sl ([.ref (bd 0 0), .int (x)])).length) Slot.unset).toArray = ls at hl ⊢
  have hl : lv_has ls 2 [(0, .ref (bd 0 0)), (1, .int (x))] := hl
  have iRX8 : ∀ w ∈ wsX80, w ∈ wsX8_noAlert := by decide +kernel
  refine lv_iload_n hx hb dX8_noAlert_0 rfl (lv_at hl 1 rfl) ?_
  refine lv_iconst (v := nI 0) hx hb dX8_noAlert_1 (by decide) ?_
  refine lv_aload_n hx hb dX8_noAlert_2 rfl (lv_at hl 0 rfl) ?_
  refine q_get (C := RX8) (T := TX8) (N := 36) hx hb hts iRX8 hown hC.1 (hW.to rLV0) rfl 14 (by decide) (hts (.fieldLink RX8 114 "LogWeaveModel" "alerts" "I") (List.mem_of_getElem? (i := 1) (by decide +kernel))) rfl (v := .int (nI (ρ 0 2))) rfl dX8_noAlert_3 ?_
  refine lv_iconst (v := nI 1) hx hb dX8_noAlert_6 (by decide) ?_
  refine lv_isub hx hb dX8_noAlert_7 ?_
  refine q_ti (y := nI (ρ 0 2) - 1) rfl ?_
  refine q_v (va_runS (As := [.int (x), .int (nI 0), .int (nI (ρ 0 2) - 1)]) (rest := []) ⟨hx, hb, hml, hown, hts⟩ (m_rin l x (nI 0) (nI (ρ 0 2) - 1)) (va_cwS 3 hts gX8_noAlert_X8_in rfl rfl rfl (by decide +kernel) ⟨Nat.le_of_ble_eq_true rfl, Nat.le_of_ble_eq_true rfl⟩) ⟨qU.blind, qU.pre⟩ rfl rfl hl.1 rfl (lv_room (Nat.le_of_ble_eq_true rfl)) dX8_noAlert_8 ⟨Nat.le_of_ble_eq_true rfl, Nat.le_of_ble_eq_true rfl⟩) hS (fun _ h => h.elim) (fun locs hS => ?_)
  refine q_ti (y := nI 0) (by rw [r_in0 (hB _ _) hx0]) ?_
  refine q_ne0 (tgt := 18) hx hb (by decide) dX8_noAlert_11 (by decide) (fun g1 => (by omega)) (fun g1 => ?_)
  refine lv_iconst (v := nI 1) hx hb dX8_noAlert_14 (by decide) ?_
  refine lv_goto (tgt := 19) hx hb dX8_noAlert_15 (by decide) ?_
  exact W.zret (v := nI 1) hx hb hr rfl (fun t ht _ => ⟨rfl, ht⟩) hS.2.2 dX8_noAlert_19
set_option maxHeartbeats 4000000 in
set_option maxRecDepth 100000 in
theorem m_rnoFiring0 (l : Launch) (G : QG) (A : Nat → Prop) (ρ bd : QSt) (hF : rWF ρ) (i : Nat) (hi : i < ρ 0 3) : Met l yX8_noFiring wsX8_noFiring ({ frames := 1, cells := 0, slots := 0, locals := 22 } : Room) (rR G A ρ bd [.ref (bd 0 0), .int (nI i)]) (qPV (some (.int (nI 0)))) 0 0 (fun _ => False) := by
  refine Met.ofW (cc := cX8_noFiring) (maxL := 2) (ret := (some .boolean)) (by decide) rfl ?_
  intro p e s m args below meth c s₁ B hml hv
  obtain ⟨rfl, hC, hW⟩ := hv
  have hx := B.exec
  have hb := B.bytes
  have hr := B.returns
  have hts := atoms_spec (ws := wsX8_noFiring) B.pre
  have hown : s.vm.findClass RX8 = some m.cls := findClass_of_methodNamed B.named
  have hlocks := B.notSynchronized
  have hB := hF.1
  have hn := hF.n
  have hS : va_S (fun _ => False) s.heap s.heap [] := va_S.rf
  have hl := lv_entry ([.ref (bd 0 0), .int (nI i)]) (n := 2) (Nat.le_of_ble_eq_true rfl)
  rw [lg_entry_eq]
  generalize (lg_sl ([.ref (bd 0 0), .int (nI i)]) ++ List.replicate (2 - (lg_sl ([.ref (bd 0 0), .int (nI i)])).length) Slot.unset).toArray = ls at hl ⊢
  have hl : lv_has ls 2 [(0, .ref (bd 0 0)), (1, .int (nI i))] := hl
  have iRX8 : ∀ w ∈ wsX80, w ∈ wsX8_noFiring := by decide +kernel
  refine lv_iload_n hx hb dX8_noFiring_0 rfl (lv_at hl 1 rfl) ?_
  refine lv_iconst (v := nI 0) hx hb dX8_noFiring_1 (by decide) ?_
  refine lv_aload_n hx hb dX8_noFiring_2 rfl (lv_at hl 0 rfl) ?_
  refine q_get (C := RX8) (T := TX8) (N := 36) hx hb hts iRX8 hown hC.1 (hW.to rLV0) rfl 25 (by decide) (hts (.fieldLink RX8 117 "LogWeaveModel" "firings" "I") (List.mem_of_getElem? (i := 1) (by decide +kernel))) rfl (v := .int (nI (ρ 0 3))) rfl dX8_noFiring_3 ?_
  refine lv_iconst (v := nI 1) hx hb dX8_noFiring_6 (by decide) ?_
  refine lv_isub hx hb dX8_noFiring_7 ?_
  refine q_ti (y := nI (ρ 0 3) - 1) rfl ?_
  refine q_v (va_runS (As := [.int (nI i), .int (nI 0), .int (nI (ρ 0 3) - 1)]) (rest := []) ⟨hx, hb, hml, hown, hts⟩ (m_rin l (nI i) (nI 0) (nI (ρ 0 3) - 1)) (va_cwS 3 hts gX8_noFiring_X8_in rfl rfl rfl (by decide +kernel) ⟨Nat.le_of_ble_eq_true rfl, Nat.le_of_ble_eq_true rfl⟩) ⟨qU.blind, qU.pre⟩ rfl rfl hl.1 rfl (lv_room (Nat.le_of_ble_eq_true rfl)) dX8_noFiring_8 ⟨Nat.le_of_ble_eq_true rfl, Nat.le_of_ble_eq_true rfl⟩) hS (fun _ h => h.elim) (fun locs hS => ?_)
  refine q_ti (y := nI 1) (by rw [r_in1 hi (hB _ _)]) ?_
  refine q_ne0 (tgt := 18) hx hb (by decide) dX8_noFiring_11 (by decide) (fun g1 => ?_) (fun g1 => (by omega))
  refine lv_iconst (v := nI 0) hx hb dX8_noFiring_18 (by decide) ?_
  exact W.zret (v := nI 0) hx hb hr rfl (fun t ht _ => ⟨rfl, ht⟩) hS.2.2 dX8_noFiring_19
set_option maxHeartbeats 4000000 in
set_option maxRecDepth 100000 in
theorem m_rnoFiring1 (l : Launch) (G : QG) (A : Nat → Prop) (ρ bd : QSt) (hF : rWF ρ) (x : Int32) (hx0 : ¬ rIn x (ρ 0 3)) : Met l yX8_noFiring wsX8_noFiring ({ frames := 1, cells := 0, slots := 0, locals := 22 } : Room) (rR G A ρ bd [.ref (bd 0 0), .int (x)]) (qPV (some (.int (nI 1)))) 0 0 (fun _ => False) := by
  refine Met.ofW (cc := cX8_noFiring) (maxL := 2) (ret := (some .boolean)) (by decide) rfl ?_
  intro p e s m args below meth c s₁ B hml hv
  obtain ⟨rfl, hC, hW⟩ := hv
  have hx := B.exec
  have hb := B.bytes
  have hr := B.returns
  have hts := atoms_spec (ws := wsX8_noFiring) B.pre
  have hown : s.vm.findClass RX8 = some m.cls := findClass_of_methodNamed B.named
  have hlocks := B.notSynchronized
  have hB := hF.1
  have hn := hF.n
  have hS : va_S (fun _ => False) s.heap s.heap [] := va_S.rf
  have hl := lv_entry ([.ref (bd 0 0), .int (x)]) (n := 2) (Nat.le_of_ble_eq_true rfl)
  rw [lg_entry_eq]
  generalize (lg_sl ([.ref (bd 0 0), .int (x)]) ++ List.replicate (2 - (lg_sl ([.ref (bd 0 0), .int (x)])).length) Slot.unset).toArray = ls at hl ⊢
  have hl : lv_has ls 2 [(0, .ref (bd 0 0)), (1, .int (x))] := hl
  have iRX8 : ∀ w ∈ wsX80, w ∈ wsX8_noFiring := by decide +kernel
  refine lv_iload_n hx hb dX8_noFiring_0 rfl (lv_at hl 1 rfl) ?_
  refine lv_iconst (v := nI 0) hx hb dX8_noFiring_1 (by decide) ?_
  refine lv_aload_n hx hb dX8_noFiring_2 rfl (lv_at hl 0 rfl) ?_
  refine q_get (C := RX8) (T := TX8) (N := 36) hx hb hts iRX8 hown hC.1 (hW.to rLV0) rfl 25 (by decide) (hts (.fieldLink RX8 117 "LogWeaveModel" "firings" "I") (List.mem_of_getElem? (i := 1) (by decide +kernel))) rfl (v := .int (nI (ρ 0 3))) rfl dX8_noFiring_3 ?_
  refine lv_iconst (v := nI 1) hx hb dX8_noFiring_6 (by decide) ?_
  refine lv_isub hx hb dX8_noFiring_7 ?_
  refine q_ti (y := nI (ρ 0 3) - 1) rfl ?_
  refine q_v (va_runS (As := [.int (x), .int (nI 0), .int (nI (ρ 0 3) - 1)]) (rest := []) ⟨hx, hb, hml, hown, hts⟩ (m_rin l x (nI 0) (nI (ρ 0 3) - 1)) (va_cwS 3 hts gX8_noFiring_X8_in rfl rfl rfl (by decide +kernel) ⟨Nat.le_of_ble_eq_true rfl, Nat.le_of_ble_eq_true rfl⟩) ⟨qU.blind, qU.pre⟩ rfl rfl hl.1 rfl (lv_room (Nat.le_of_ble_eq_true rfl)) dX8_noFiring_8 ⟨Nat.le_of_ble_eq_true rfl, Nat.le_of_ble_eq_true rfl⟩) hS (fun _ h => h.elim) (fun locs hS => ?_)
  refine q_ti (y := nI 0) (by rw [r_in0 (hB _ _) hx0]) ?_
  refine q_ne0 (tgt := 18) hx hb (by decide) dX8_noFiring_11 (by decide) (fun g1 => (by omega)) (fun g1 => ?_)
  refine lv_iconst (v := nI 1) hx hb dX8_noFiring_14 (by decide) ?_
  refine lv_goto (tgt := 19) hx hb dX8_noFiring_15 (by decide) ?_
  exact W.zret (v := nI 1) hx hb hr rfl (fun t ht _ => ⟨rfl, ht⟩) hS.2.2 dX8_noFiring_19
set_option maxHeartbeats 4000000 in
set_option maxRecDepth 100000 in
theorem m_rnoPattern0 (l : Launch) (G : QG) (A : Nat → Prop) (ρ bd : QSt) (hF : rWF ρ) (i : Nat) (hi : i < ρ 0 1) (hm : ρ 97 i = 0) : Met l yX8_noPattern wsX8_noPattern ({ frames := 1, cells := 0, slots := 0, locals := 22 } : Room) (rR G A ρ bd [.ref (bd 0 0), .int (nI i)]) (qPV (some (.int (nI 0)))) 0 0 (fun _ => False) := by
  refine Met.ofW (cc := cX8_noPattern) (maxL := 2) (ret := (some .boolean)) (by decide) rfl ?_
  intro p e s m args below meth c s₁ B hml hv
  obtain ⟨rfl, hC, hW⟩ := hv
  have hx := B.exec
  have hb := B.bytes
  have hr := B.returns
  have hts := atoms_spec (ws := wsX8_noPattern) B.pre
  have hown : s.vm.findClass RX8 = some m.cls := findClass_of_methodNamed B.named
  have hlocks := B.notSynchronized
  have hB := hF.1
  have hn := hF.n
  have hS : va_S (fun _ => False) s.heap s.heap [] := va_S.rf
  have hl := lv_entry ([.ref (bd 0 0), .int (nI i)]) (n := 2) (Nat.le_of_ble_eq_true rfl)
  rw [lg_entry_eq]
  generalize (lg_sl ([.ref (bd 0 0), .int (nI i)]) ++ List.replicate (2 - (lg_sl ([.ref (bd 0 0), .int (nI i)])).length) Slot.unset).toArray = ls at hl ⊢
  have hl : lv_has ls 2 [(0, .ref (bd 0 0)), (1, .int (nI i))] := hl
  have iRX8 : ∀ w ∈ wsX80, w ∈ wsX8_noPattern := by decide +kernel
  refine lv_iload_n hx hb dX8_noPattern_0 rfl (lv_at hl 1 rfl) ?_
  refine lv_iconst (v := nI 0) hx hb dX8_noPattern_1 (by decide) ?_
  refine lv_aload_n hx hb dX8_noPattern_2 rfl (lv_at hl 0 rfl) ?_
  refine q_get (C := RX8) (T := TX8) (N := 36) hx hb hts iRX8 hown hC.1 (hW.to rLV0) rfl 10 (by decide) (hts (.fieldLink RX8 111 "LogWeaveModel" "patterns" "I") (List.mem_of_getElem? (i := 1) (by decide +kernel))) rfl (v := .int (nI (ρ 0 1))) rfl dX8_noPattern_3 ?_
  refine lv_iconst (v := nI 1) hx hb dX8_noPattern_6 (by decide) ?_
  refine lv_isub hx hb dX8_noPattern_7 ?_
  refine q_ti (y := nI (ρ 0 1) - 1) rfl ?_
  refine q_v (va_runS (As := [.int (nI i), .int (nI 0), .int (nI (ρ 0 1) - 1)]) (rest := []) ⟨hx, hb, hml, hown, hts⟩ (m_rin l (nI i) (nI 0) (nI (ρ 0 1) - 1)) (va_cwS 3 hts gX8_noPattern_X8_in rfl rfl rfl (by decide +kernel) ⟨Nat.le_of_ble_eq_true rfl, Nat.le_of_ble_eq_true rfl⟩) ⟨qU.blind, qU.pre⟩ rfl rfl hl.1 rfl (lv_room (Nat.le_of_ble_eq_true rfl)) dX8_noPattern_8 ⟨Nat.le_of_ble_eq_true rfl, Nat.le_of_ble_eq_true rfl⟩) hS (fun _ h => h.elim) (fun locs hS => ?_)
  refine q_ti (y := nI 1) (by rw [r_in1 hi (hB _ _)]) ?_
  refine q_eq0 (tgt := 23) hx hb (by decide) dX8_noPattern_11 (by decide) (fun g1 => (by omega)) (fun g1 => ?_)
  refine lv_aload_n hx hb dX8_noPattern_14 rfl (lv_at hl 0 rfl) ?_
  refine q_get (C := RX8) (T := TX8) (N := 36) hx hb hts iRX8 hown hC.1 (hW.to rLV0) rfl 13 (by decide) (hts (.fieldLink RX8 38 "LogWeaveModel" "isMerged" "[Z") (List.mem_of_getElem? (i := 2) (by decide +kernel))) rfl (v := .ref (bd 10 0)) rfl dX8_noPattern_15 ?_
  refine lv_iload_n hx hb dX8_noPattern_18 rfl (lv_at hl 1 rfl) ?_
  refine r_zald hx hb hC.1 (hW.to rLV10) 4 rfl (i := i) (by omega) (by decide) (v := nI (ρ 97 i)) rfl dX8_noPattern_19 ?_
  refine q_eq0 (tgt := 27) hx hb (q31 (hB _ _)) dX8_noPattern_20 (by decide) (fun g2 => ?_) (fun g2 => ?_)
  · skip
    refine lv_iconst (v := nI 0) hx hb dX8_noPattern_27 (by decide) ?_
    exact W.zret (v := nI 0) hx hb hr rfl (fun t ht _ => ⟨rfl, ht⟩) hS.2.2 dX8_noPattern_28
  · skip
    refine lv_iconst (v := nI 1) hx hb dX8_noPattern_23 (by decide) ?_
    refine lv_goto (tgt := 28) hx hb dX8_noPattern_24 (by decide) ?_
    exact absurd hm g2
set_option maxHeartbeats 4000000 in
set_option maxRecDepth 100000 in
theorem m_rnoPattern1 (l : Launch) (G : QG) (A : Nat → Prop) (ρ bd : QSt) (hF : rWF ρ) (i : Nat) (hi : i < ρ 0 1) (hm : ρ 97 i ≠ 0) : Met l yX8_noPattern wsX8_noPattern ({ frames := 1, cells := 0, slots := 0, locals := 22 } : Room) (rR G A ρ bd [.ref (bd 0 0), .int (nI i)]) (qPV (some (.int (nI 1)))) 0 0 (fun _ => False) := by
  refine Met.ofW (cc := cX8_noPattern) (maxL := 2) (ret := (some .boolean)) (by decide) rfl ?_
  intro p e s m args below meth c s₁ B hml hv
  obtain ⟨rfl, hC, hW⟩ := hv
  have hx := B.exec
  have hb := B.bytes
  have hr := B.returns
  have hts := atoms_spec (ws := wsX8_noPattern) B.pre
  have hown : s.vm.findClass RX8 = some m.cls := findClass_of_methodNamed B.named
  have hlocks := B.notSynchronized
  have hB := hF.1
  have hn := hF.n
  have hS : va_S (fun _ => False) s.heap s.heap [] := va_S.rf
  have hl := lv_entry ([.ref (bd 0 0), .int (nI i)]) (n := 2) (Nat.le_of_ble_eq_true rfl)
  rw [lg_entry_eq]
  generalize (lg_sl ([.ref (bd 0 0), .int (nI i)]) ++ List.replicate (2 - (lg_sl ([.ref (bd 0 0), .int (nI i)])).length) Slot.unset).toArray = ls at hl ⊢
  have hl : lv_has ls 2 [(0, .ref (bd 0 0)), (1, .int (nI i))] := hl
  have iRX8 : ∀ w ∈ wsX80, w ∈ wsX8_noPattern := by decide +kernel
  refine lv_iload_n hx hb dX8_noPattern_0 rfl (lv_at hl 1 rfl) ?_
  refine lv_iconst (v := nI 0) hx hb dX8_noPattern_1 (by decide) ?_
  refine lv_aload_n hx hb dX8_noPattern_2 rfl (lv_at hl 0 rfl) ?_
  refine q_get (C := RX8) (T := TX8) (N := 36) hx hb hts iRX8 hown hC.1 (hW.to rLV0) rfl 10 (by decide) (hts (.fieldLink RX8 111 "LogWeaveModel" "patterns" "I") (List.mem_of_getElem? (i := 1) (by decide +kernel))) rfl (v := .int (nI (ρ 0 1))) rfl dX8_noPattern_3 ?_
  refine lv_iconst (v := nI 1) hx hb dX8_noPattern_6 (by decide) ?_
  refine lv_isub hx hb dX8_noPattern_7 ?_
  refine q_ti (y := nI (ρ 0 1) - 1) rfl ?_
  refine q_v (va_runS (As := [.int (nI i), .int (nI 0), .int (nI (ρ 0 1) - 1)]) (rest := []) ⟨hx, hb, hml, hown, hts⟩ (m_rin l (nI i) (nI 0) (nI (ρ 0 1) - 1)) (va_cwS 3 hts gX8_noPattern_X8_in rfl rfl rfl (by decide +kernel) ⟨Nat.le_of_ble_eq_true rfl, Nat.le_of_ble_eq_true rfl⟩) ⟨qU.blind, qU.pre⟩ rfl rfl hl.1 rfl (lv_room (Nat.le_of_ble_eq_true rfl)) dX8_noPattern_8 ⟨Nat.le_of_ble_eq_true rfl, Nat.le_of_ble_eq_true rfl⟩) hS (fun _ h => h.elim) (fun locs hS => ?_)
  refine q_ti (y := nI 1) (by rw [r_in1 hi (hB _ _)]) ?_
  refine q_eq0 (tgt := 23) hx hb (by decide) dX8_noPattern_11 (by decide) (fun g1 => (by omega)) (fun g1 => ?_)
  refine lv_aload_n hx hb dX8_noPattern_14 rfl (lv_at hl 0 rfl) ?_
  refine q_get (C := RX8) (T := TX8) (N := 36) hx hb hts iRX8 hown hC.1 (hW.to rLV0) rfl 13 (by decide) (hts (.fieldLink RX8 38 "LogWeaveModel" "isMerged" "[Z") (List.mem_of_getElem? (i := 2) (by decide +kernel))) rfl (v := .ref (bd 10 0)) rfl dX8_noPattern_15 ?_
  refine lv_iload_n hx hb dX8_noPattern_18 rfl (lv_at hl 1 rfl) ?_
  refine r_zald hx hb hC.1 (hW.to rLV10) 4 rfl (i := i) (by omega) (by decide) (v := nI (ρ 97 i)) rfl dX8_noPattern_19 ?_
  refine q_eq0 (tgt := 27) hx hb (q31 (hB _ _)) dX8_noPattern_20 (by decide) (fun g2 => ?_) (fun g2 => ?_)
  · skip
    refine lv_iconst (v := nI 0) hx hb dX8_noPattern_27 (by decide) ?_
    exact absurd g2 hm
  · skip
    refine lv_iconst (v := nI 1) hx hb dX8_noPattern_23 (by decide) ?_
    refine lv_goto (tgt := 28) hx hb dX8_noPattern_24 (by decide) ?_
    exact W.zret (v := nI 1) hx hb hr rfl (fun t ht _ => ⟨rfl, ht⟩) hS.2.2 dX8_noPattern_28
set_option maxHeartbeats 4000000 in
set_option maxRecDepth 100000 in
theorem m_rnoPattern2 (l : Launch) (G : QG) (A : Nat → Prop) (ρ bd : QSt) (hF : rWF ρ) (x : Int32) (hx0 : ¬ rIn x (ρ 0 1)) : Met l yX8_noPattern wsX8_noPattern ({ frames := 1, cells := 0, slots := 0, locals := 22 } : Room) (rR G A ρ bd [.ref (bd 0 0), .int (x)]) (qPV (some (.int (nI 1)))) 0 0 (fun _ => False) := by
  refine Met.ofW (cc := cX8_noPattern) (maxL := 2) (ret := (some .boolean)) (by decide) rfl ?_
  intro p e s m args below meth c s₁ B hml hv
  obtain ⟨rfl, hC, hW⟩ := hv
  have hx := B.exec
  have hb := B.bytes
  have hr := B.returns
  have hts := atoms_spec (ws := wsX8_noPattern) B.pre
  have hown : s.vm.findClass RX8 = some m.cls := findClass_of_methodNamed B.named
  have hlocks := B.notSynchronized
  have hB := hF.1
  have hn := hF.n
  have hS : va_S (fun _ => False) s.heap s.heap [] := va_S.rf
  have hl := lv_entry ([.ref (bd 0 0), .int (x)]) (n := 2) (Nat.le_of_ble_eq_true rfl)
  rw [lg_entry_eq]
  generalize (lg_sl ([.ref (bd 0 0), .int (x)]) ++ List.replicate (2 - (lg_sl ([.ref (bd 0 0), .int (x)])).length) Slot.unset).toArray = ls at hl ⊢
  have hl : lv_has ls 2 [(0, .ref (bd 0 0)), (1, .int (x))] := hl
  have iRX8 : ∀ w ∈ wsX80, w ∈ wsX8_noPattern := by decide +kernel
  refine lv_iload_n hx hb dX8_noPattern_0 rfl (lv_at hl 1 rfl) ?_
  refine lv_iconst (v := nI 0) hx hb dX8_noPattern_1 (by decide) ?_
  refine lv_aload_n hx hb dX8_noPattern_2 rfl (lv_at hl 0 rfl) ?_
  refine q_get (C := RX8) (T := TX8) (N := 36) hx hb hts iRX8 hown hC.1 (hW.to rLV0) rfl 10 (by decide) (hts (.fieldLink RX8 111 "LogWeaveModel" "patterns" "I") (List.mem_of_getElem? (i := 1) (by decide +kernel))) rfl (v := .int (nI (ρ 0 1))) rfl dX8_noPattern_3 ?_
  refine lv_iconst (v := nI 1) hx hb dX8_noPattern_6 (by decide) ?_
  refine lv_isub hx hb dX8_noPattern_7 ?_
  refine q_ti (y := nI (ρ 0 1) - 1) rfl ?_
  refine q_v (va_runS (As := [.int (x), .int (nI 0), .int (nI (ρ 0 1) - 1)]) (rest := []) ⟨hx, hb, hml, hown, hts⟩ (m_rin l x (nI 0) (nI (ρ 0 1) - 1)) (va_cwS 3 hts gX8_noPattern_X8_in rfl rfl rfl (by decide +kernel) ⟨Nat.le_of_ble_eq_true rfl, Nat.le_of_ble_eq_true rfl⟩) ⟨qU.blind, qU.pre⟩ rfl rfl hl.1 rfl (lv_room (Nat.le_of_ble_eq_true rfl)) dX8_noPattern_8 ⟨Nat.le_of_ble_eq_true rfl, Nat.le_of_ble_eq_true rfl⟩) hS (fun _ h => h.elim) (fun locs hS => ?_)
  refine q_ti (y := nI 0) (by rw [r_in0 (hB _ _) hx0]) ?_
  refine q_eq0 (tgt := 23) hx hb (by decide) dX8_noPattern_11 (by decide) (fun g1 => ?_) (fun g1 => (by omega))
  refine lv_iconst (v := nI 1) hx hb dX8_noPattern_23 (by decide) ?_
  refine lv_goto (tgt := 28) hx hb dX8_noPattern_24 (by decide) ?_
  exact W.zret (v := nI 1) hx hb hr rfl (fun t ht _ => ⟨rfl, ht⟩) hS.2.2 dX8_noPattern_28
