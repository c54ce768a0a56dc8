theorem l_u8 (x : Int32) : (x.toUInt32 >>> ((nI 8).toUInt32 &&& Int32.toUInt32 31)).toInt32 = nI (x.toBitVec.toNat / 2 ^ 8) := by
  apply Int32.toBitVec_inj.mp
  apply BitVec.eq_of_toNat_eq
  rw [pk_ushr x (nI 8) 8 (by decide), pk_tn (Nat.lt_of_le_of_lt (Nat.div_le_self _ _) x.toBitVec.isLt)]
theorem l_u8lt (x : Int32) : x.toBitVec.toNat / 2 ^ 8 < 16777216 := by
  have h := x.toBitVec.isLt
  have e : (2 : Nat) ^ 8 = 256 := by decide
  rw [e]
  omega
set_option maxHeartbeats 4000000 in
set_option maxRecDepth 100000 in
theorem k_cell (l : Launch) (b0 n0 : Nat) (xs : Nat → Int32) (i0 : Nat) (hn : n0 ≤ 260) (hi : i0 < 100000) : Met l yL_cell wsL_cell ({ frames := 0, cells := 0, slots := 0, locals := 0 } : Room) (qXs b0 n0 xs [.ref (b0), .int (nI i0)]) (qPE (fun _ => True)) 0 0 (fun _ => False) := by
  refine Met.ofW (cc := cL_cell) (maxL := 3) (ret := (some .int)) (by decide) rfl ?_
  intro p e s m args below meth c s₁ B hml hv
  obtain ⟨rfl, hX, hbl⟩ := hv
  have hx := B.exec
  have hb := B.bytes
  have hr := B.returns
  have hts := atoms_spec (ws := wsL_cell) B.pre
  have hown : s.vm.findClass RL = some m.cls := findClass_of_methodNamed B.named
  have hlocks := B.notSynchronized
  have hS : va_S (fun _ => False) s.heap s.heap [] := va_S.rf
  have hl := lv_entry ([.ref (b0), .int (nI i0)]) (n := 3) (Nat.le_of_ble_eq_true rfl)
  rw [lg_entry_eq]
  generalize (lg_sl ([.ref (b0), .int (nI i0)]) ++ List.replicate (3 - (lg_sl ([.ref (b0), .int (nI i0)])).length) Slot.unset).toArray = ls at hl ⊢
  have hl : lv_has ls 3 [(0, .ref (b0)), (1, .int (nI i0))] := hl
  refine lv_ldc (v := 69069) hx hb hown (hts (.constant RL 7 (69069)) (List.mem_of_getElem? (i := 1) (by decide +kernel))) dL_cell_0 ?_
  refine lv_iload_n hx hb dL_cell_2 rfl (lv_at hl 1 rfl) ?_
  refine lv_aload_n hx hb dL_cell_3 rfl (lv_at hl 0 rfl) ?_
  refine va_slen hx hb hX hbl (fun h => h) hS dL_cell_4 ?_
  refine q_ge (tgt := 14) hx hb (by omega) (by omega) dL_cell_5 (by decide) (fun c9 => ?_) (fun c9 => ?_)
  · skip
    refine lv_iconst (v := nI 0) hx hb dL_cell_14 (by decide) ?_
    refine lv_sipush (v := nI 1009) hx hb dL_cell_15 (by decide) ?_
    refine lv_iload_n hx hb dL_cell_18 rfl (lv_at hl 1 rfl) ?_
    refine lv_imul hx hb dL_cell_19 ?_
    refine q_ti (pk_mul 1009 i0) ?_
    refine lv_iadd hx hb dL_cell_20 ?_
    refine q_ti (nI_add 0 (1009 * i0)) ?_
    refine lv_topi (fun y1 _ => ?_)
    refine lv_imul hx hb dL_cell_21 ?_
    refine lv_topi (fun y2 _ => ?_)
    refine lv_sipush (v := nI 12345) hx hb dL_cell_22 (by decide) ?_
    refine lv_iadd hx hb dL_cell_25 ?_
    refine lv_topi (fun y3 _ => ?_)
    refine lv_istore_n (lv' := [(2, .int (y3)), (0, .ref (b0)), (1, .int (nI i0))]) hx hb dL_cell_26 rfl hl (by decide) rfl (fun ls hl => ?_)
    refine lv_iload_n hx hb dL_cell_27 rfl (lv_at hl 0 rfl) ?_
    refine lv_iload_n hx hb dL_cell_28 rfl (lv_at hl 0 rfl) ?_
    refine lv_bipush (v := nI 13) hx hb dL_cell_29 (by decide) ?_
    refine lv_iushr hx hb dL_cell_31 rfl ?_
    refine lv_topi (fun y4 _ => ?_)
    refine lv_ixor hx hb dL_cell_32 ?_
    refine lv_topi (fun y5 _ => ?_)
    refine lv_ldc (v := 1103515245) hx hb hown (hts (.constant RL 8 (1103515245)) (List.mem_of_getElem? (i := 2) (by decide +kernel))) dL_cell_33 ?_
    refine lv_imul hx hb dL_cell_35 ?_
    refine lv_topi (fun y6 _ => ?_)
    refine lv_istore_n (lv' := [(2, .int (y6)), (0, .ref (b0)), (1, .int (nI i0))]) hx hb dL_cell_36 rfl hl (by decide) rfl (fun ls hl => ?_)
    refine lv_iload_n hx hb dL_cell_37 rfl (lv_at hl 0 rfl) ?_
    refine lv_iload_n hx hb dL_cell_38 rfl (lv_at hl 0 rfl) ?_
    refine lv_bipush (v := nI 16) hx hb dL_cell_39 (by decide) ?_
    refine lv_iushr hx hb dL_cell_41 rfl ?_
    refine lv_topi (fun y7 _ => ?_)
    refine lv_ixor hx hb dL_cell_42 ?_
    refine lv_topi (fun y8 _ => ?_)
    exact W.iret hx hb hr (fun t ht _ => ⟨_, trivial, rfl, ht⟩) hS.2.2 dL_cell_43
  · skip
    refine lv_aload_n hx hb dL_cell_8 rfl (lv_at hl 0 rfl) ?_
    refine lv_iload_n hx hb dL_cell_9 rfl (lv_at hl 1 rfl) ?_
    refine va_sld hx hb hX hbl (fun h => h) hS (vp_in_nI (n := i0) (by omega) (by omega)) dL_cell_10 ?_
    refine lv_topi (fun y0 _ => ?_)
    refine lv_goto (tgt := 15) hx hb dL_cell_11 (by decide) ?_
    refine lv_sipush (v := nI 1009) hx hb dL_cell_15 (by decide) ?_
    refine lv_iload_n hx hb dL_cell_18 rfl (lv_at hl 1 rfl) ?_
    refine lv_imul hx hb dL_cell_19 ?_
    refine q_ti (pk_mul 1009 i0) ?_
    refine lv_iadd hx hb dL_cell_20 ?_
    refine lv_topi (fun y1 _ => ?_)
    refine lv_imul hx hb dL_cell_21 ?_
    refine lv_topi (fun y2 _ => ?_)
    refine lv_sipush (v := nI 12345) hx hb dL_cell_22 (by decide) ?_
    refine lv_iadd hx hb dL_cell_25 ?_
    refine lv_topi (fun y3 _ => ?_)
    refine lv_istore_n (lv' := [(2, .int (y3)), (0, .ref (b0)), (1, .int (nI i0))]) hx hb dL_cell_26 rfl hl (by decide) rfl (fun ls hl => ?_)
    refine lv_iload_n hx hb dL_cell_27 rfl (lv_at hl 0 rfl) ?_
    refine lv_iload_n hx hb dL_cell_28 rfl (lv_at hl 0 rfl) ?_
    refine lv_bipush (v := nI 13) hx hb dL_cell_29 (by decide) ?_
    refine lv_iushr hx hb dL_cell_31 rfl ?_
    refine lv_topi (fun y4 _ => ?_)
    refine lv_ixor hx hb dL_cell_32 ?_
    refine lv_topi (fun y5 _ => ?_)
    refine lv_ldc (v := 1103515245) hx hb hown (hts (.constant RL 8 (1103515245)) (List.mem_of_getElem? (i := 2) (by decide +kernel))) dL_cell_33 ?_
    refine lv_imul hx hb dL_cell_35 ?_
    refine lv_topi (fun y6 _ => ?_)
    refine lv_istore_n (lv' := [(2, .int (y6)), (0, .ref (b0)), (1, .int (nI i0))]) hx hb dL_cell_36 rfl hl (by decide) rfl (fun ls hl => ?_)
    refine lv_iload_n hx hb dL_cell_37 rfl (lv_at hl 0 rfl) ?_
    refine lv_iload_n hx hb dL_cell_38 rfl (lv_at hl 0 rfl) ?_
    refine lv_bipush (v := nI 16) hx hb dL_cell_39 (by decide) ?_
    refine lv_iushr hx hb dL_cell_41 rfl ?_
    refine lv_topi (fun y7 _ => ?_)
    refine lv_ixor hx hb dL_cell_42 ?_
    refine lv_topi (fun y8 _ => ?_)
    exact W.iret hx hb hr (fun t ht _ => ⟨_, trivial, rfl, ht⟩) hS.2.2 dL_cell_43
set_option maxHeartbeats 4000000 in
set_option maxRecDepth 100000 in
theorem k_pick (l : Launch) (b0 n0 : Nat) (xs : Nat → Int32) (i0 m0 : Nat) (hn : n0 ≤ 260) (hi : i0 < 100000) (hm : 0 < m0) (hm2 : m0 < 1073741824) : Met l yL_pick wsL_pick ({ frames := 1, cells := 0, slots := 0, locals := 22 } : Room) (qXs b0 n0 xs [.ref (b0), .int (nI i0), .int (nI m0)]) (qPE (fun x => ∃ j, j < m0 ∧ x = nI j)) 0 0 (fun _ => False) := by
  refine Met.ofW (cc := cL_pick) (maxL := 3) (ret := (some .int)) (by decide) rfl ?_
  intro p e s m args below meth c s₁ B hml hv
  obtain ⟨rfl, hX, hbl⟩ := hv
  have hx := B.exec
  have hb := B.bytes
  have hr := B.returns
  have hts := atoms_spec (ws := wsL_pick) B.pre
  have hown : s.vm.findClass RL = some m.cls := findClass_of_methodNamed B.named
  have hlocks := B.notSynchronized
  have hS : va_S (fun _ => False) s.heap s.heap [] := va_S.rf
  have hl := lv_entry ([.ref (b0), .int (nI i0), .int (nI m0)]) (n := 3) (Nat.le_of_ble_eq_true rfl)
  rw [lg_entry_eq]
  generalize (lg_sl ([.ref (b0), .int (nI i0), .int (nI m0)]) ++ List.replicate (3 - (lg_sl ([.ref (b0), .int (nI i0), .int (nI m0)])).length) Slot.unset).toArray = ls at hl ⊢
  have hl : lv_has ls 3 [(0, .ref (b0)), (1, .int (nI i0)), (2, .int (nI m0))] := hl
  refine lv_aload_n hx hb dL_pick_0 rfl (lv_at hl 0 rfl) ?_
  refine lv_iload_n hx hb dL_pick_1 rfl (lv_at hl 1 rfl) ?_
  refine q_vE (va_runS (As := [.ref (b0), .int (nI i0)]) (rest := []) ⟨hx, hb, hml, hown, hts⟩ (k_cell l b0 n0 xs i0 hn hi) (va_cwS 2 hts gL_pick_L_cell rfl rfl rfl (by decide +kernel) ⟨Nat.le_of_ble_eq_true rfl, Nat.le_of_ble_eq_true rfl⟩) ⟨qXs.blind, qXs.pre hX hbl⟩ rfl rfl hl.1 rfl (lv_room (Nat.le_of_ble_eq_true rfl)) dL_pick_2 ⟨Nat.le_of_ble_eq_true rfl, Nat.le_of_ble_eq_true rfl⟩) hS (fun _ h => h.elim) (fun x locs _ hS => ?_)
  refine lv_bipush (v := nI 8) hx hb dL_pick_5 (by decide) ?_
  refine lv_iushr hx hb dL_pick_7 (l_u8 x) ?_
  have h24 := l_u8lt x
  generalize x.toBitVec.toNat / 2 ^ 8 = k9 at h24 ⊢
  refine lv_iload_n hx hb dL_pick_8 rfl (lv_at hl 2 rfl) ?_
  refine lv_irem hx hb dL_pick_9 (fun z => absurd ((nI_eq (by omega) (by decide)).mp (z.trans nI_0.symm)) (by omega)) ?_
  refine q_ti (pk_rem (by omega) hm (by omega)) ?_
  exact W.iret hx hb hr (fun t ht _ => ⟨_, ⟨_, Nat.mod_lt _ hm, rfl⟩, rfl, ht⟩) hS.2.2 dL_pick_10
