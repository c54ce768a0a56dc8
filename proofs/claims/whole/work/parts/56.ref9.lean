theorem r_un {p : Prop} [Decidable p] (h : qB p ≠ 0) : p := Classical.byContradiction fun q => h (qB_f q)

set_option maxHeartbeats 4000000 in
set_option maxRecDepth 100000 in
theorem m_rvalues (l : Launch) (G : QG) (A : Nat → Prop) (ρ bd : QSt) (hF : rWF (rT ρ)) (p0 k : Nat) (hp : p0 < (rT ρ) 0 1) (hm : (rT ρ) 97 p0 = 0) (hk : k < 3) : Met l yX8_values wsX8_values ({ frames := 2, cells := 0, slots := 0, locals := 43 } : Room) (rR G A ρ bd [.ref (bd 0 0), .int (nI p0), .int (nI k)]) (qWV (some (.int (nI (qsum (fun x => qB (0 < qsum (fun l => qB ((rT ρ) 68 l = p0 ∧ (rT ρ) (80 + k) l = x)) ((rT ρ) 0 0))) 100)))) (rW G A (rT ρ) bd) A) 0 0 A := by
  refine Met.ofW (cc := cX8_values) (maxL := 7) (ret := (some .int)) (by decide) rfl ?_
  intro p e s m args below meth c s₁ B hml hv
  obtain ⟨rfl, hC, hW⟩ := hv
  have hx := B.exec
  have hb := B.bytes
  have hr := B.returns
  have hts := atoms_spec (ws := wsX8_values) B.pre
  have hown : s.vm.findClass RX8 = some m.cls := findClass_of_methodNamed B.named
  have hlocks := B.notSynchronized
  have hB := hF.1
  have hn := hF.n
  have hS : va_S A s.heap s.heap [] := va_S.rf
  have hl := lv_entry ([.ref (bd 0 0), .int (nI p0), .int (nI k)]) (n := 7) (Nat.le_of_ble_eq_true rfl)
  rw [lg_entry_eq]
  generalize (lg_sl ([.ref (bd 0 0), .int (nI p0), .int (nI k)]) ++ List.replicate (7 - (lg_sl ([.ref (bd 0 0), .int (nI p0), .int (nI k)])).length) Slot.unset).toArray = ls at hl ⊢
  have hl : lv_has ls 7 [(0, .ref (bd 0 0)), (1, .int (nI p0)), (2, .int (nI k))] := hl
  have iRX8 : ∀ w ∈ wsX80, w ∈ wsX8_values := by decide +kernel
  refine lv_aload_n hx hb dX8_values_0 rfl (lv_at hl 0 rfl) ?_
  refine lv_iconst (v := nI 0) hx hb dX8_values_1 (by decide) ?_
  refine q_put (C := RX8) (T := TX8) (N := 36) (ty := .int) (v := .int (nI 0)) hx hb hts iRX8 tyX8 tyX8_ok nmX8 hown hC.1 (hW.to rLV0) (hW.in rLV0) hS rfl 0 (by decide) (hts (.fieldLink RX8 100 "LogWeaveModel" "thrown" "I") (List.mem_of_getElem? (i := 1) (by decide +kernel))) rfl rfl (by decide +kernel) rfl rfl (Nat.le_of_ble_eq_true rfl) dX8_values_2 (fun H1 locs hat hsz hoq hS => ?_)
  have hW := hW.upR 2 0 0 rfl rLV0 ((rLV0 (ρ := (qup ρ 2 0 0))).trans (by rw [qup_s]; rfl)) hat hoq
  have hW : rW G A (rT ρ) bd _ := hW
  refine lv_aload_n hx hb dX8_values_5 rfl (lv_at hl 0 rfl) ?_
  refine lv_aload_n hx hb dX8_values_6 rfl (lv_at hl 0 rfl) ?_
  refine lv_iload_n hx hb dX8_values_7 rfl (lv_at hl 1 rfl) ?_
  refine q_v (va_runV (As := [.int (nI p0)]) (rest := [.ref (bd 0 0)]) ⟨hx, hb, hml, hown, hts⟩ (m_rnoPattern0 l G A (rT ρ) bd hF p0 hp hm) (cwV 1 hts gX8_values_X8_noPattern rfl rfl rfl (by decide +kernel) ⟨Nat.le_of_ble_eq_true rfl, Nat.le_of_ble_eq_true rfl⟩) ⟨rR.blind, qrecv hC (hW.to rLV0) rfl, rR.pre hC hW⟩ rfl rfl hl.1 rfl (lv_room (Nat.le_of_ble_eq_true rfl)) dX8_values_8 ⟨Nat.le_of_ble_eq_true rfl, Nat.le_of_ble_eq_true rfl⟩) hS (fun _ h => h.elim) (fun locs hS => ?_)
  refine lv_iconst (v := nI 1) hx hb dX8_values_11 (by decide) ?_
  refine q_v (va_runV (As := [.int (nI 0), .int (nI 1)]) (rest := []) ⟨hx, hb, hml, hown, hts⟩ (m_rfails0 l G A (rT ρ) bd hF 1 (rT_0 ρ)) (cwV 2 hts gX8_values_X8_fails rfl rfl rfl (by decide +kernel) ⟨Nat.le_of_ble_eq_true rfl, Nat.le_of_ble_eq_true rfl⟩) ⟨rR.blind, qrecv hC (hW.to rLV0) rfl, rR.pre hC hW⟩ rfl rfl hl.1 rfl (lv_room (Nat.le_of_ble_eq_true rfl)) dX8_values_12 ⟨Nat.le_of_ble_eq_true rfl, Nat.le_of_ble_eq_true rfl⟩) hS (fun _ h => h.elim) (fun locs hS => ?_)
  refine q_ne0 (tgt := 40) hx hb (by decide) dX8_values_15 (by decide) (fun g1 => (by omega)) (fun g1 => ?_)
  refine lv_aload_n hx hb dX8_values_18 rfl (lv_at hl 0 rfl) ?_
  refine lv_iload_n hx hb dX8_values_19 rfl (lv_at hl 2 rfl) ?_
  refine lv_iconst (v := nI 0) hx hb dX8_values_20 (by decide) ?_
  refine lv_iconst (v := nI 2) hx hb dX8_values_21 (by decide) ?_
  refine q_v (va_runS (As := [.int (nI k), .int (nI 0), .int (nI 2)]) (rest := [.ref (bd 0 0)]) ⟨hx, hb, hml, hown, hts⟩ (m_rin l (nI k) (nI 0) (nI 2)) (va_cwS 3 hts gX8_values_X8_in rfl rfl rfl (by decide +kernel) ⟨Nat.le_of_ble_eq_true rfl, Nat.le_of_ble_eq_true rfl⟩) ⟨qU.blind, qU.pre⟩ rfl rfl hl.1 rfl (lv_room (Nat.le_of_ble_eq_true rfl)) dX8_values_22 ⟨Nat.le_of_ble_eq_true rfl, Nat.le_of_ble_eq_true rfl⟩) hS (fun _ h => h.elim) (fun locs hS => ?_)
  refine q_ti (y := nI 1) (by rw [qB_t ⟨nI_le (by omega) (by omega), nI_le (by omega) (by decide)⟩]) ?_
  refine q_ne0 (tgt := 32) hx hb (by decide) dX8_values_25 (by decide) (fun g2 => ?_) (fun g2 => (by omega))
  refine lv_iconst (v := nI 0) hx hb dX8_values_32 (by decide) ?_
  refine lv_iconst (v := nI 2) hx hb dX8_values_33 (by decide) ?_
  refine q_v (va_runV (As := [.int (nI 0), .int (nI 2)]) (rest := []) ⟨hx, hb, hml, hown, hts⟩ (m_rfails0 l G A (rT ρ) bd hF 2 (rT_0 ρ)) (cwV 2 hts gX8_values_X8_fails rfl rfl rfl (by decide +kernel) ⟨Nat.le_of_ble_eq_true rfl, Nat.le_of_ble_eq_true rfl⟩) ⟨rR.blind, qrecv hC (hW.to rLV0) rfl, rR.pre hC hW⟩ rfl rfl hl.1 rfl (lv_room (Nat.le_of_ble_eq_true rfl)) dX8_values_34 ⟨Nat.le_of_ble_eq_true rfl, Nat.le_of_ble_eq_true rfl⟩) hS (fun _ h => h.elim) (fun locs hS => ?_)
  refine q_eq0 (tgt := 42) hx hb (by decide) dX8_values_37 (by decide) (fun g3 => ?_) (fun g3 => (by omega))
  refine lv_iconst (v := nI 0) hx hb dX8_values_42 (by decide) ?_
  refine lv_istore_n (lv' := [(3, .int (nI 0)), (0, .ref (bd 0 0)), (1, .int (nI p0)), (2, .int (nI k))]) hx hb dX8_values_43 rfl hl (by decide) rfl (fun ls hl => ?_)
  refine lv_iconst (v := nI 0) hx hb dX8_values_44 (by decide) ?_
  refine lv_istore (lv' := [(4, .int (nI 0)), (3, .int (nI 0)), (0, .ref (bd 0 0)), (1, .int (nI p0)), (2, .int (nI k))]) hx hb dX8_values_45 hl (by decide) rfl (fun ls hl => ?_)
  refine q_up 100 (fun x H locs ls => rW G A (rT ρ) bd H ∧ va_S A s.heap H locs ∧ ∃ (v : Nat), (v = qsum (fun x => qB (0 < qsum (fun l => qB ((rT ρ) 68 l = p0 ∧ (rT ρ) (80 + k) l = x)) ((rT ρ) 0 0))) x) ∧ lv_has ls 7 [(0, .ref (bd 0 0)), (1, .int (nI p0)), (2, .int (nI k)), (3, .int (nI v)), (4, .int (nI x))]) ?_ ?_ (i0 := 0) (Nat.zero_le _) ⟨hW, hS, 0, rfl, lv_sub hl [2, 3, 4, 1, 0] rfl⟩
  · rintro H locs ls ⟨hW, hS, v, e_v, hl⟩
    refine lv_iload hx hb dX8_values_47 (lv_at hl 4 rfl) ?_
    refine lv_bipush (v := nI 100) hx hb dX8_values_49 (by decide) ?_
    refine q_ge (tgt := 133) hx hb (by decide) (by decide) dX8_values_51 (by decide) (fun g4 => ?_) (fun g4 => (by omega))
    refine lv_iload_n hx hb dX8_values_133 rfl (lv_at hl 3 rfl) ?_
    exact W.iret hx hb hr (fun t ht _ => ⟨by rw [e_v], by rw [ht]; exact hW, hS.F ht⟩) hS.2.2 dX8_values_134
  · rintro x H locs ls hi ⟨hW, hS, v, e_v, hl⟩ ihx
    refine lv_iload hx hb dX8_values_47 (lv_at hl 4 rfl) ?_
    refine lv_bipush (v := nI 100) hx hb dX8_values_49 (by decide) ?_
    refine q_ge (tgt := 133) hx hb (by omega) (by decide) dX8_values_51 (by decide) (fun g5 => (by omega)) (fun g5 => ?_)
    refine lv_iconst (v := nI 0) hx hb dX8_values_54 (by decide) ?_
    refine lv_istore (lv' := [(5, .int (nI 0)), (0, .ref (bd 0 0)), (1, .int (nI p0)), (2, .int (nI k)), (3, .int (nI v)), (4, .int (nI x))]) hx hb dX8_values_55 hl (by decide) rfl (fun ls hl => ?_)
    refine lv_iconst (v := nI 0) hx hb dX8_values_57 (by decide) ?_
    refine lv_istore (lv' := [(6, .int (nI 0)), (5, .int (nI 0)), (0, .ref (bd 0 0)), (1, .int (nI p0)), (2, .int (nI k)), (3, .int (nI v)), (4, .int (nI x))]) hx hb dX8_values_58 hl (by decide) rfl (fun ls hl => ?_)
    refine q_up ((rT ρ) 0 0) (fun i H locs ls => rW G A (rT ρ) bd H ∧ va_S A s.heap H locs ∧ ∃ (u : Nat), (u ≤ 1 ∧ (u = 1 ↔ 0 < qsum (fun l => qB ((rT ρ) 68 l = p0 ∧ (rT ρ) (80 + k) l = x)) i)) ∧ lv_has ls 7 [(0, .ref (bd 0 0)), (1, .int (nI p0)), (2, .int (nI k)), (3, .int (nI v)), (4, .int (nI x)), (5, .int (nI u)), (6, .int (nI i))]) ?_ ?_ (i0 := 0) (Nat.zero_le _) ⟨hW, hS, 0, ⟨Nat.zero_le 1, by rw [qsum]; omega⟩, lv_sub hl [2, 3, 4, 5, 6, 1, 0] rfl⟩
    · rintro H locs ls ⟨hW, hS, u, e_u, hl⟩
      refine lv_iload hx hb dX8_values_60 (lv_at hl 6 rfl) ?_
      refine lv_aload_n hx hb dX8_values_62 rfl (lv_at hl 0 rfl) ?_
      refine q_get (C := RX8) (T := TX8) (N := 36) hx hb hts iRX8 hown hC.1 (hW.to rLV0) rfl 2 (by decide) (hts (.fieldLink RX8 104 "LogWeaveModel" "lines" "I") (List.mem_of_getElem? (i := 2) (by decide +kernel))) rfl (v := .int (nI ((rT ρ) 0 0))) rfl dX8_values_63 ?_
      refine q_ge (tgt := 114) hx hb (q31 (hB _ _)) (q31 (hB _ _)) dX8_values_66 (by decide) (fun g6 => ?_) (fun g6 => (by omega))
      refine lv_iload_n hx hb dX8_values_114 rfl (lv_at hl 3 rfl) ?_
      refine lv_iload hx hb dX8_values_115 (lv_at hl 5 rfl) ?_
      refine q_eq0 (tgt := 124) hx hb (by have := e_u.1; omega) dX8_values_117 (by decide) (fun g7 => ?_) (fun g7 => ?_)
      · skip
        refine lv_iconst (v := nI 0) hx hb dX8_values_124 (by decide) ?_
        refine lv_iadd hx hb dX8_values_125 ?_
        refine q_ti (nI_add v 0) ?_
        refine lv_istore_n (lv' := [(3, .int (nI (v + 0))), (0, .ref (bd 0 0)), (1, .int (nI p0)), (2, .int (nI k)), (4, .int (nI x)), (5, .int (nI u)), (6, .int (nI ((rT ρ) 0 0)))]) hx hb dX8_values_126 rfl hl (by decide) rfl (fun ls hl => ?_)
        refine lv_iinc (v := nI (x + 1)) (lv' := [(4, .int (nI (x + 1))), (3, .int (nI (v + 0))), (0, .ref (bd 0 0)), (1, .int (nI p0)), (2, .int (nI k)), (5, .int (nI u)), (6, .int (nI ((rT ρ) 0 0)))]) hx hb dX8_values_127 hl (k := 4) rfl (nI_1 x) (by decide) rfl (fun ls hl => ?_)
        refine lv_goto (tgt := 47) hx hb dX8_values_130 (by decide) ?_
        exact ihx _ _ ls ⟨hW, hS, (v + 0), by rw [e_v, qsum]; have h2 : ¬ (0 < qsum (fun l => qB ((rT ρ) 68 l = p0 ∧ (rT ρ) (80 + k) l = x)) ((rT ρ) 0 0)) → qB (0 < qsum (fun l => qB ((rT ρ) 68 l = p0 ∧ (rT ρ) (80 + k) l = x)) ((rT ρ) 0 0)) = 0 := qB_f; have h3 : (0 < qsum (fun l => qB ((rT ρ) 68 l = p0 ∧ (rT ρ) (80 + k) l = x)) ((rT ρ) 0 0)) → qB (0 < qsum (fun l => qB ((rT ρ) 68 l = p0 ∧ (rT ρ) (80 + k) l = x)) ((rT ρ) 0 0)) = 1 := qB_t; have h4 := e_u; omega, lv_sub hl [2, 3, 4, 1, 0] rfl⟩
      · skip
        refine lv_iconst (v := nI 1) hx hb dX8_values_120 (by decide) ?_
        refine lv_goto (tgt := 125) hx hb dX8_values_121 (by decide) ?_
        refine lv_iadd hx hb dX8_values_125 ?_
        refine q_ti (nI_add v 1) ?_
        refine lv_istore_n (lv' := [(3, .int (nI (v + 1))), (0, .ref (bd 0 0)), (1, .int (nI p0)), (2, .int (nI k)), (4, .int (nI x)), (5, .int (nI u)), (6, .int (nI ((rT ρ) 0 0)))]) hx hb dX8_values_126 rfl hl (by decide) rfl (fun ls hl => ?_)
        refine lv_iinc (v := nI (x + 1)) (lv' := [(4, .int (nI (x + 1))), (3, .int (nI (v + 1))), (0, .ref (bd 0 0)), (1, .int (nI p0)), (2, .int (nI k)), (5, .int (nI u)), (6, .int (nI ((rT ρ) 0 0)))]) hx hb dX8_values_127 hl (k := 4) rfl (nI_1 x) (by decide) rfl (fun ls hl => ?_)
        refine lv_goto (tgt := 47) hx hb dX8_values_130 (by decide) ?_
        exact ihx _ _ ls ⟨hW, hS, (v + 1), by rw [e_v, qsum]; have h2 : ¬ (0 < qsum (fun l => qB ((rT ρ) 68 l = p0 ∧ (rT ρ) (80 + k) l = x)) ((rT ρ) 0 0)) → qB (0 < qsum (fun l => qB ((rT ρ) 68 l = p0 ∧ (rT ρ) (80 + k) l = x)) ((rT ρ) 0 0)) = 0 := qB_f; have h3 : (0 < qsum (fun l => qB ((rT ρ) 68 l = p0 ∧ (rT ρ) (80 + k) l = x)) ((rT ρ) 0 0)) → qB (0 < qsum (fun l => qB ((rT ρ) 68 l = p0 ∧ (rT ρ) (80 + k) l = x)) ((rT ρ) 0 0)) = 1 := qB_t; have h4 := e_u; omega, lv_sub hl [2, 3, 4, 1, 0] rfl⟩
    · rintro i H locs ls hi ⟨hW, hS, u, e_u, hl⟩ ihl
      refine lv_iload hx hb dX8_values_60 (lv_at hl 6 rfl) ?_
      refine lv_aload_n hx hb dX8_values_62 rfl (lv_at hl 0 rfl) ?_
      refine q_get (C := RX8) (T := TX8) (N := 36) hx hb hts iRX8 hown hC.1 (hW.to rLV0) rfl 2 (by decide) (hts (.fieldLink RX8 104 "LogWeaveModel" "lines" "I") (List.mem_of_getElem? (i := 2) (by decide +kernel))) rfl (v := .int (nI ((rT ρ) 0 0))) rfl dX8_values_63 ?_
      refine q_ge (tgt := 114) hx hb (by omega) (q31 (hB _ _)) dX8_values_66 (by decide) (fun g8 => (by omega)) (fun g8 => ?_)
      refine lv_iload hx hb dX8_values_69 (lv_at hl 5 rfl) ?_
      refine q_ne0 (tgt := 101) hx hb (by have := e_u.1; omega) dX8_values_71 (by decide) (fun g9 => ?_) (fun g9 => ?_)
      · skip
        refine lv_iconst (v := nI 1) hx hb dX8_values_101 (by decide) ?_
        refine lv_goto (tgt := 106) hx hb dX8_values_102 (by decide) ?_
        refine lv_istore (lv' := [(5, .int (nI 1)), (0, .ref (bd 0 0)), (1, .int (nI p0)), (2, .int (nI k)), (3, .int (nI v)), (4, .int (nI x)), (6, .int (nI i))]) hx hb dX8_values_106 hl (by decide) rfl (fun ls hl => ?_)
        refine lv_iinc (v := nI (i + 1)) (lv' := [(6, .int (nI (i + 1))), (5, .int (nI 1)), (0, .ref (bd 0 0)), (1, .int (nI p0)), (2, .int (nI k)), (3, .int (nI v)), (4, .int (nI x))]) hx hb dX8_values_108 hl (k := 6) rfl (nI_1 i) (by decide) rfl (fun ls hl => ?_)
        refine lv_goto (tgt := 60) hx hb dX8_values_111 (by decide) ?_
        exact ihl _ _ ls ⟨hW, hS, 1, by have hq : qsum (fun l => qB ((rT ρ) 68 l = p0 ∧ (rT ρ) (80 + k) l = x)) (i + 1) = qsum (fun l => qB ((rT ρ) 68 l = p0 ∧ (rT ρ) (80 + k) l = x)) i + qB ((rT ρ) 68 i = p0 ∧ (rT ρ) (80 + k) i = x) := rfl; have h2 : ¬ ((rT ρ) 68 i = p0 ∧ (rT ρ) (80 + k) i = x) → qB ((rT ρ) 68 i = p0 ∧ (rT ρ) (80 + k) i = x) = 0 := qB_f; have h3 : ((rT ρ) 68 i = p0 ∧ (rT ρ) (80 + k) i = x) → qB ((rT ρ) 68 i = p0 ∧ (rT ρ) (80 + k) i = x) = 1 := qB_t; have h4 := e_u; rw [hq]; omega, lv_sub hl [2, 3, 4, 5, 6, 1, 0] rfl⟩
      · skip
        refine lv_aload_n hx hb dX8_values_74 rfl (lv_at hl 0 rfl) ?_
        refine q_get (C := RX8) (T := TX8) (N := 36) hx hb hts iRX8 hown hC.1 (hW.to rLV0) rfl 9 (by decide) (hts (.fieldLink RX8 29 "LogWeaveModel" "pattern" "[I") (List.mem_of_getElem? (i := 3) (by decide +kernel))) rfl (v := .ref (bd 7 0)) rfl dX8_values_75 ?_
        refine lv_iload hx hb dX8_values_78 (lv_at hl 6 rfl) ?_
        refine r_iald hx hb hC.1 (hW.to rLV7) 1 rfl (i := i) (by omega) (by decide) (v := nI ((rT ρ) 68 i)) rfl dX8_values_80 ?_
        refine lv_iload_n hx hb dX8_values_81 rfl (lv_at hl 1 rfl) ?_
        refine q_ne (tgt := 105) hx hb (q31 (hB _ _)) (by omega) dX8_values_82 (by decide) (fun g10 => ?_) (fun g10 => ?_)
        · skip
          refine lv_iconst (v := nI 0) hx hb dX8_values_105 (by decide) ?_
          refine lv_istore (lv' := [(5, .int (nI 0)), (0, .ref (bd 0 0)), (1, .int (nI p0)), (2, .int (nI k)), (3, .int (nI v)), (4, .int (nI x)), (6, .int (nI i))]) hx hb dX8_values_106 hl (by decide) rfl (fun ls hl => ?_)
          refine lv_iinc (v := nI (i + 1)) (lv' := [(6, .int (nI (i + 1))), (5, .int (nI 0)), (0, .ref (bd 0 0)), (1, .int (nI p0)), (2, .int (nI k)), (3, .int (nI v)), (4, .int (nI x))]) hx hb dX8_values_108 hl (k := 6) rfl (nI_1 i) (by decide) rfl (fun ls hl => ?_)
          refine lv_goto (tgt := 60) hx hb dX8_values_111 (by decide) ?_
          exact ihl _ _ ls ⟨hW, hS, 0, by have hq : qsum (fun l => qB ((rT ρ) 68 l = p0 ∧ (rT ρ) (80 + k) l = x)) (i + 1) = qsum (fun l => qB ((rT ρ) 68 l = p0 ∧ (rT ρ) (80 + k) l = x)) i + qB ((rT ρ) 68 i = p0 ∧ (rT ρ) (80 + k) i = x) := rfl; have h2 : ¬ ((rT ρ) 68 i = p0 ∧ (rT ρ) (80 + k) i = x) → qB ((rT ρ) 68 i = p0 ∧ (rT ρ) (80 + k) i = x) = 0 := qB_f; have h3 : ((rT ρ) 68 i = p0 ∧ (rT ρ) (80 + k) i = x) → qB ((rT ρ) 68 i = p0 ∧ (rT ρ) (80 + k) i = x) = 1 := qB_t; have h4 := e_u; rw [hq]; omega, lv_sub hl [2, 3, 4, 5, 6, 1, 0] rfl⟩
        · skip
          refine lv_aload_n hx hb dX8_values_85 rfl (lv_at hl 0 rfl) ?_
          refine q_get (C := RX8) (T := TX8) (N := 36) hx hb hts iRX8 hown hC.1 (hW.to rLV0) rfl 5 (by decide) (hts (.fieldLink RX8 16 "LogWeaveModel" "word" "[I") (List.mem_of_getElem? (i := 4) (by decide +kernel))) rfl (v := .ref (bd 3 0)) rfl dX8_values_86 ?_
          refine lv_iconst (v := nI 3) hx hb dX8_values_89 (by decide) ?_
          refine lv_iload hx hb dX8_values_90 (lv_at hl 6 rfl) ?_
          refine lv_imul hx hb dX8_values_92 ?_
          refine q_ti (pk_mul 3 i) ?_
          refine lv_iload_n hx hb dX8_values_93 rfl (lv_at hl 2 rfl) ?_
          refine lv_iadd hx hb dX8_values_94 ?_
          refine q_ti (nI_add (3 * i) k) ?_
          refine r_iald hx hb hC.1 (hW.to rLV3) 1 rfl (i := ((3 * i) + k)) (by omega) (by decide) (v := nI ((rT ρ) (80 + k) i)) (by show nI ((rT ρ) (80 + ((3 * i) + k) % 3) (((3 * i) + k) / 3)) = _; rw [show ((3 * i) + k) % 3 = k by omega, show ((3 * i) + k) / 3 = i by omega]) dX8_values_95 ?_
          refine lv_iload hx hb dX8_values_96 (lv_at hl 4 rfl) ?_
          refine q_ne (tgt := 105) hx hb (q31 (hB _ _)) (by omega) dX8_values_98 (by decide) (fun g11 => ?_) (fun g11 => ?_)
          · skip
            refine lv_iconst (v := nI 0) hx hb dX8_values_105 (by decide) ?_
            refine lv_istore (lv' := [(5, .int (nI 0)), (0, .ref (bd 0 0)), (1, .int (nI p0)), (2, .int (nI k)), (3, .int (nI v)), (4, .int (nI x)), (6, .int (nI i))]) hx hb dX8_values_106 hl (by decide) rfl (fun ls hl => ?_)
            refine lv_iinc (v := nI (i + 1)) (lv' := [(6, .int (nI (i + 1))), (5, .int (nI 0)), (0, .ref (bd 0 0)), (1, .int (nI p0)), (2, .int (nI k)), (3, .int (nI v)), (4, .int (nI x))]) hx hb dX8_values_108 hl (k := 6) rfl (nI_1 i) (by decide) rfl (fun ls hl => ?_)
            refine lv_goto (tgt := 60) hx hb dX8_values_111 (by decide) ?_
            exact ihl _ _ ls ⟨hW, hS, 0, by have hq : qsum (fun l => qB ((rT ρ) 68 l = p0 ∧ (rT ρ) (80 + k) l = x)) (i + 1) = qsum (fun l => qB ((rT ρ) 68 l = p0 ∧ (rT ρ) (80 + k) l = x)) i + qB ((rT ρ) 68 i = p0 ∧ (rT ρ) (80 + k) i = x) := rfl; have h2 : ¬ ((rT ρ) 68 i = p0 ∧ (rT ρ) (80 + k) i = x) → qB ((rT ρ) 68 i = p0 ∧ (rT ρ) (80 + k) i = x) = 0 := qB_f; have h3 : ((rT ρ) 68 i = p0 ∧ (rT ρ) (80 + k) i = x) → qB ((rT ρ) 68 i = p0 ∧ (rT ρ) (80 + k) i = x) = 1 := qB_t; have h4 := e_u; rw [hq]; omega, lv_sub hl [2, 3, 4, 5, 6, 1, 0] rfl⟩
          · skip
            refine lv_iconst (v := nI 1) hx hb dX8_values_101 (by decide) ?_
            refine lv_goto (tgt := 106) hx hb dX8_values_102 (by decide) ?_
            refine lv_istore (lv' := [(5, .int (nI 1)), (0, .ref (bd 0 0)), (1, .int (nI p0)), (2, .int (nI k)), (3, .int (nI v)), (4, .int (nI x)), (6, .int (nI i))]) hx hb dX8_values_106 hl (by decide) rfl (fun ls hl => ?_)
            refine lv_iinc (v := nI (i + 1)) (lv' := [(6, .int (nI (i + 1))), (5, .int (nI 1)), (0, .ref (bd 0 0)), (1, .int (nI p0)), (2, .int (nI k)), (3, .int (nI v)), (4, .int (nI x))]) hx hb dX8_values_108 hl (k := 6) rfl (nI_1 i) (by decide) rfl (fun ls hl => ?_)
            refine lv_goto (tgt := 60) hx hb dX8_values_111 (by decide) ?_
            exact ihl _ _ ls ⟨hW, hS, 1, by have hq : qsum (fun l => qB ((rT ρ) 68 l = p0 ∧ (rT ρ) (80 + k) l = x)) (i + 1) = qsum (fun l => qB ((rT ρ) 68 l = p0 ∧ (rT ρ) (80 + k) l = x)) i + qB ((rT ρ) 68 i = p0 ∧ (rT ρ) (80 + k) i = x) := rfl; have h2 : ¬ ((rT ρ) 68 i = p0 ∧ (rT ρ) (80 + k) i = x) → qB ((rT ρ) 68 i = p0 ∧ (rT ρ) (80 + k) i = x) = 0 := qB_f; have h3 : ((rT ρ) 68 i = p0 ∧ (rT ρ) (80 + k) i = x) → qB ((rT ρ) 68 i = p0 ∧ (rT ρ) (80 + k) i = x) = 1 := qB_t; have h4 := e_u; rw [hq]; omega, lv_sub hl [2, 3, 4, 5, 6, 1, 0] rfl⟩
set_option maxHeartbeats 4000000 in
set_option maxRecDepth 100000 in
theorem m_rbytes (l : Launch) (G : QG) (A : Nat → Prop) (ρ bd : QSt) (hF : rWF (rT ρ))  : Met l yX8_bytes wsX8_bytes ({ frames := 0, cells := 0, slots := 0, locals := 0 } : Room) (rR G A ρ bd [.ref (bd 0 0)]) (qWV (some (.long (lN (qsum (fun l => (rT ρ) 66 l) ((rT ρ) 0 0))))) (rW G A (rT ρ) bd) A) 0 0 A := by
  refine Met.ofW (cc := cX8_bytes) (maxL := 4) (ret := (some .long)) (by decide) rfl ?_
  intro p e s m args below meth c s₁ B hml hv
  obtain ⟨rfl, hC, hW⟩ := hv
  have hx := B.exec
  have hb := B.bytes
  have hr := B.returns
  have hts := atoms_spec (ws := wsX8_bytes) B.pre
  have hown : s.vm.findClass RX8 = some m.cls := findClass_of_methodNamed B.named
  have hlocks := B.notSynchronized
  have hB := hF.1
  have hn := hF.n
  have hS : va_S A s.heap s.heap [] := va_S.rf
  have hl := lv_entry ([.ref (bd 0 0)]) (n := 4) (Nat.le_of_ble_eq_true rfl)
  rw [lg_entry_eq]
  generalize (lg_sl ([.ref (bd 0 0)]) ++ List.replicate (4 - (lg_sl ([.ref (bd 0 0)])).length) Slot.unset).toArray = ls at hl ⊢
  have hl : lv_has ls 4 [(0, .ref (bd 0 0))] := hl
  have iRX8 : ∀ w ∈ wsX80, w ∈ wsX8_bytes := by decide +kernel
  refine lv_aload_n hx hb dX8_bytes_0 rfl (lv_at hl 0 rfl) ?_
  refine lv_iconst (v := nI 0) hx hb dX8_bytes_1 (by decide) ?_
  refine q_put (C := RX8) (T := TX8) (N := 36) (ty := .int) (v := .int (nI 0)) hx hb hts iRX8 tyX8 tyX8_ok nmX8 hown hC.1 (hW.to rLV0) (hW.in rLV0) hS rfl 0 (by decide) (hts (.fieldLink RX8 100 "LogWeaveModel" "thrown" "I") (List.mem_of_getElem? (i := 1) (by decide +kernel))) rfl rfl (by decide +kernel) rfl rfl (Nat.le_of_ble_eq_true rfl) dX8_bytes_2 (fun H1 locs hat hsz hoq hS => ?_)
  have hW := hW.upR 2 0 0 rfl rLV0 ((rLV0 (ρ := (qup ρ 2 0 0))).trans (by rw [qup_s]; rfl)) hat hoq
  have hW : rW G A (rT ρ) bd _ := hW
  refine lv_lconst (v := lN 0) hx hb dX8_bytes_5 (by decide) ?_
  refine lv_lstore_n (lv' := [(1, .long (lN 0)), (0, .ref (bd 0 0))]) hx hb dX8_bytes_6 rfl hl (by decide) rfl (fun ls hl => ?_)
  refine lv_iconst (v := nI 0) hx hb dX8_bytes_7 (by decide) ?_
  refine lv_istore_n (lv' := [(3, .int (nI 0)), (1, .long (lN 0)), (0, .ref (bd 0 0))]) hx hb dX8_bytes_8 rfl hl (by decide) rfl (fun ls hl => ?_)
  refine q_up ((rT ρ) 0 0) (fun i H locs ls => rW G A (rT ρ) bd H ∧ va_S A s.heap H locs ∧ ∃ (v : Nat), (v = qsum (fun l => (rT ρ) 66 l) i) ∧ lv_has ls 4 [(0, .ref (bd 0 0)), (1, .long (lN v)), (3, .int (nI i))]) ?_ ?_ (i0 := 0) (Nat.zero_le _) ⟨hW, hS, 0, rfl, lv_sub hl [2, 1, 0] rfl⟩
  · rintro H locs ls ⟨hW, hS, v, e_v, hl⟩
    refine lv_iload_n hx hb dX8_bytes_9 rfl (lv_at hl 2 rfl) ?_
    refine lv_aload_n hx hb dX8_bytes_10 rfl (lv_at hl 0 rfl) ?_
    refine q_get (C := RX8) (T := TX8) (N := 36) hx hb hts iRX8 hown hC.1 (hW.to rLV0) rfl 2 (by decide) (hts (.fieldLink RX8 104 "LogWeaveModel" "lines" "I") (List.mem_of_getElem? (i := 2) (by decide +kernel))) rfl (v := .int (nI ((rT ρ) 0 0))) rfl dX8_bytes_11 ?_
    refine q_ge (tgt := 33) hx hb (q31 (hB _ _)) (q31 (hB _ _)) dX8_bytes_14 (by decide) (fun g1 => ?_) (fun g1 => (by omega))
    refine lv_lload_n hx hb dX8_bytes_33 rfl (lv_at hl 1 rfl) ?_
    exact W.lret hx hb hr (fun t ht _ => ⟨by rw [e_v], by rw [ht]; exact hW, hS.F ht⟩) hS.2.2 dX8_bytes_34
  · rintro i H locs ls hi ⟨hW, hS, v, e_v, hl⟩ ih
    refine lv_iload_n hx hb dX8_bytes_9 rfl (lv_at hl 2 rfl) ?_
    refine lv_aload_n hx hb dX8_bytes_10 rfl (lv_at hl 0 rfl) ?_
    refine q_get (C := RX8) (T := TX8) (N := 36) hx hb hts iRX8 hown hC.1 (hW.to rLV0) rfl 2 (by decide) (hts (.fieldLink RX8 104 "LogWeaveModel" "lines" "I") (List.mem_of_getElem? (i := 2) (by decide +kernel))) rfl (v := .int (nI ((rT ρ) 0 0))) rfl dX8_bytes_11 ?_
    refine q_ge (tgt := 33) hx hb (by omega) (q31 (hB _ _)) dX8_bytes_14 (by decide) (fun g2 => (by omega)) (fun g2 => ?_)
    refine lv_lload_n hx hb dX8_bytes_17 rfl (lv_at hl 1 rfl) ?_
    refine lv_aload_n hx hb dX8_bytes_18 rfl (lv_at hl 0 rfl) ?_
    refine q_get (C := RX8) (T := TX8) (N := 36) hx hb hts iRX8 hown hC.1 (hW.to rLV0) rfl 6 (by decide) (hts (.fieldLink RX8 19 "LogWeaveModel" "bytes" "[I") (List.mem_of_getElem? (i := 3) (by decide +kernel))) rfl (v := .ref (bd 4 0)) rfl dX8_bytes_19 ?_
    refine lv_iload_n hx hb dX8_bytes_22 rfl (lv_at hl 2 rfl) ?_
    refine r_iald hx hb hC.1 (hW.to rLV4) 1 rfl (i := i) (by omega) (by decide) (v := nI ((rT ρ) 66 i)) rfl dX8_bytes_23 ?_
    refine lv_i2l (v := lN ((rT ρ) 66 i)) hx hb dX8_bytes_24 (nI_l (q31 (hB _ _))) ?_
    refine lv_ladd hx hb dX8_bytes_25 ?_
    refine q_tl (lN_add v ((rT ρ) 66 i)) ?_
    refine lv_lstore_n (lv' := [(1, .long (lN (v + ((rT ρ) 66 i)))), (0, .ref (bd 0 0)), (3, .int (nI i))]) hx hb dX8_bytes_26 rfl hl (by decide) rfl (fun ls hl => ?_)
    refine lv_iinc (v := nI (i + 1)) (lv' := [(3, .int (nI (i + 1))), (1, .long (lN (v + ((rT ρ) 66 i)))), (0, .ref (bd 0 0))]) hx hb dX8_bytes_27 hl (k := 2) rfl (nI_1 i) (by decide) rfl (fun ls hl => ?_)
    refine lv_goto (tgt := 9) hx hb dX8_bytes_30 (by decide) ?_
    exact ih _ _ ls ⟨hW, hS, (v + (rT ρ) 66 i), by rw [e_v, qsum], lv_sub hl [2, 1, 0] rfl⟩
set_option maxHeartbeats 4000000 in
set_option maxRecDepth 100000 in
theorem x_rstateOf1 (l : Launch) (G : QG) (A : Nat → Prop) (ρ bd : QSt) (hF : rWF (rT ρ)) (x : Int32) (hx0 : ¬ rIn x ((rT ρ) 0 0)) : Met l yX8_stateOf wsX8_stateOf ({ frames := 2, cells := 0, slots := 0, locals := 43 } : Room) (rR G A ρ bd [.ref (bd 0 0), .int (x)]) (qWV (some (.int (nI 0))) (rW G A (qup (rT ρ) 2 0 1) bd) A) 0 0 A := by
  refine Met.ofW (cc := cX8_stateOf) (maxL := 2) (ret := (some .char)) (by decide) rfl ?_
  intro p e s m args below meth c s₁ B hml hv
  obtain ⟨rfl, hC, hW⟩ := hv
  have hx := B.exec
  have hb := B.bytes
  have hr := B.returns
  have hts := atoms_spec (ws := wsX8_stateOf) B.pre
  have hown : s.vm.findClass RX8 = some m.cls := findClass_of_methodNamed B.named
  have hlocks := B.notSynchronized
  have hB := hF.1
  have hn := hF.n
  have hS : va_S A s.heap s.heap [] := va_S.rf
  have hl := lv_entry ([.ref (bd 0 0), .int (x)]) (n := 2) (Nat.le_of_ble_eq_true rfl)
  rw [lg_entry_eq]
  generalize (lg_sl ([.ref (bd 0 0), .int (x)]) ++ List.replicate (2 - (lg_sl ([.ref (bd 0 0), .int (x)])).length) Slot.unset).toArray = ls at hl ⊢
  have hl : lv_has ls 2 [(0, .ref (bd 0 0)), (1, .int (x))] := hl
  have iRX8 : ∀ w ∈ wsX80, w ∈ wsX8_stateOf := by decide +kernel
  refine lv_aload_n hx hb dX8_stateOf_0 rfl (lv_at hl 0 rfl) ?_
  refine lv_iconst (v := nI 0) hx hb dX8_stateOf_1 (by decide) ?_
  refine q_put (C := RX8) (T := TX8) (N := 36) (ty := .int) (v := .int (nI 0)) hx hb hts iRX8 tyX8 tyX8_ok nmX8 hown hC.1 (hW.to rLV0) (hW.in rLV0) hS rfl 0 (by decide) (hts (.fieldLink RX8 100 "LogWeaveModel" "thrown" "I") (List.mem_of_getElem? (i := 1) (by decide +kernel))) rfl rfl (by decide +kernel) rfl rfl (Nat.le_of_ble_eq_true rfl) dX8_stateOf_2 (fun H1 locs hat hsz hoq hS => ?_)
  have hW := hW.upR 2 0 0 rfl rLV0 ((rLV0 (ρ := (qup ρ 2 0 0))).trans (by rw [qup_s]; rfl)) hat hoq
  have hW : rW G A (rT ρ) bd _ := hW
  refine lv_aload_n hx hb dX8_stateOf_5 rfl (lv_at hl 0 rfl) ?_
  refine lv_aload_n hx hb dX8_stateOf_6 rfl (lv_at hl 0 rfl) ?_
  refine lv_iload_n hx hb dX8_stateOf_7 rfl (lv_at hl 1 rfl) ?_
  refine q_v (va_runV (As := [.int (x)]) (rest := [.ref (bd 0 0)]) ⟨hx, hb, hml, hown, hts⟩ (m_rnoLine1 l G A (rT ρ) bd hF x hx0) (cwV 1 hts gX8_stateOf_X8_noLine rfl rfl rfl (by decide +kernel) ⟨Nat.le_of_ble_eq_true rfl, Nat.le_of_ble_eq_true rfl⟩) ⟨rR.blind, qrecv hC (hW.to rLV0) rfl, rR.pre hC hW⟩ rfl rfl hl.1 rfl (lv_room (Nat.le_of_ble_eq_true rfl)) dX8_stateOf_8 ⟨Nat.le_of_ble_eq_true rfl, Nat.le_of_ble_eq_true rfl⟩) hS (fun _ h => h.elim) (fun locs hS => ?_)
  refine lv_iconst (v := nI 1) hx hb dX8_stateOf_11 (by decide) ?_
  refine q_wv (va_runV (As := [.int (nI 1), .int (nI 1)]) (rest := []) ⟨hx, hb, hml, hown, hts⟩ (m_rfails1 l G A (rT ρ) bd hF 1 (by decide) (by decide) (rT_0 ρ)) (cwV 2 hts gX8_stateOf_X8_fails rfl rfl rfl (by decide +kernel) ⟨Nat.le_of_ble_eq_true rfl, Nat.le_of_ble_eq_true rfl⟩) ⟨rR.blind, qrecv hC (hW.to rLV0) rfl, rR.pre hC hW⟩ rfl rfl hl.1 rfl (lv_room (Nat.le_of_ble_eq_true rfl)) dX8_stateOf_12 ⟨Nat.le_of_ble_eq_true rfl, Nat.le_of_ble_eq_true rfl⟩) hS (fun _ h => h) (fun _ h => h) (fun H1 locs hW hz hk hS => ?_)
  refine q_eq0 (tgt := 22) hx hb (by decide) dX8_stateOf_15 (by decide) (fun g1 => (by omega)) (fun g1 => ?_)
  refine lv_iconst (v := nI 0) hx hb dX8_stateOf_18 (by decide) ?_
  refine lv_goto (tgt := 28) hx hb dX8_stateOf_19 (by decide) ?_
  exact W.zret (v := nI 0) hx hb hr (rfl) (fun t ht _ => ⟨rfl, by rw [ht]; exact hW, hS.F ht⟩) hS.2.2 dX8_stateOf_28
set_option maxHeartbeats 4000000 in
set_option maxRecDepth 100000 in
theorem x_rpatternOf1 (l : Launch) (G : QG) (A : Nat → Prop) (ρ bd : QSt) (hF : rWF (rT ρ)) (x : Int32) (hx0 : ¬ rIn x ((rT ρ) 0 0)) : Met l yX8_patternOf wsX8_patternOf ({ frames := 2, cells := 0, slots := 0, locals := 43 } : Room) (rR G A ρ bd [.ref (bd 0 0), .int (x)]) (qWV (some (.int (nI 0))) (rW G A (qup (rT ρ) 2 0 1) bd) A) 0 0 A := by
  refine Met.ofW (cc := cX8_patternOf) (maxL := 2) (ret := (some .int)) (by decide) rfl ?_
  intro p e s m args below meth c s₁ B hml hv
  obtain ⟨rfl, hC, hW⟩ := hv
  have hx := B.exec
  have hb := B.bytes
  have hr := B.returns
  have hts := atoms_spec (ws := wsX8_patternOf) B.pre
  have hown : s.vm.findClass RX8 = some m.cls := findClass_of_methodNamed B.named
  have hlocks := B.notSynchronized
  have hB := hF.1
  have hn := hF.n
  have hS : va_S A s.heap s.heap [] := va_S.rf
  have hl := lv_entry ([.ref (bd 0 0), .int (x)]) (n := 2) (Nat.le_of_ble_eq_true rfl)
  rw [lg_entry_eq]
  generalize (lg_sl ([.ref (bd 0 0), .int (x)]) ++ List.replicate (2 - (lg_sl ([.ref (bd 0 0), .int (x)])).length) Slot.unset).toArray = ls at hl ⊢
  have hl : lv_has ls 2 [(0, .ref (bd 0 0)), (1, .int (x))] := hl
  have iRX8 : ∀ w ∈ wsX80, w ∈ wsX8_patternOf := by decide +kernel
  refine lv_aload_n hx hb dX8_patternOf_0 rfl (lv_at hl 0 rfl) ?_
  refine lv_iconst (v := nI 0) hx hb dX8_patternOf_1 (by decide) ?_
  refine q_put (C := RX8) (T := TX8) (N := 36) (ty := .int) (v := .int (nI 0)) hx hb hts iRX8 tyX8 tyX8_ok nmX8 hown hC.1 (hW.to rLV0) (hW.in rLV0) hS rfl 0 (by decide) (hts (.fieldLink RX8 100 "LogWeaveModel" "thrown" "I") (List.mem_of_getElem? (i := 1) (by decide +kernel))) rfl rfl (by decide +kernel) rfl rfl (Nat.le_of_ble_eq_true rfl) dX8_patternOf_2 (fun H1 locs hat hsz hoq hS => ?_)
  have hW := hW.upR 2 0 0 rfl rLV0 ((rLV0 (ρ := (qup ρ 2 0 0))).trans (by rw [qup_s]; rfl)) hat hoq
  have hW : rW G A (rT ρ) bd _ := hW
  refine lv_aload_n hx hb dX8_patternOf_5 rfl (lv_at hl 0 rfl) ?_
  refine lv_aload_n hx hb dX8_patternOf_6 rfl (lv_at hl 0 rfl) ?_
  refine lv_iload_n hx hb dX8_patternOf_7 rfl (lv_at hl 1 rfl) ?_
  refine q_v (va_runV (As := [.int (x)]) (rest := [.ref (bd 0 0)]) ⟨hx, hb, hml, hown, hts⟩ (m_rnoLine1 l G A (rT ρ) bd hF x hx0) (cwV 1 hts gX8_patternOf_X8_noLine rfl rfl rfl (by decide +kernel) ⟨Nat.le_of_ble_eq_true rfl, Nat.le_of_ble_eq_true rfl⟩) ⟨rR.blind, qrecv hC (hW.to rLV0) rfl, rR.pre hC hW⟩ rfl rfl hl.1 rfl (lv_room (Nat.le_of_ble_eq_true rfl)) dX8_patternOf_8 ⟨Nat.le_of_ble_eq_true rfl, Nat.le_of_ble_eq_true rfl⟩) hS (fun _ h => h.elim) (fun locs hS => ?_)
  refine lv_iconst (v := nI 1) hx hb dX8_patternOf_11 (by decide) ?_
  refine q_wv (va_runV (As := [.int (nI 1), .int (nI 1)]) (rest := []) ⟨hx, hb, hml, hown, hts⟩ (m_rfails1 l G A (rT ρ) bd hF 1 (by decide) (by decide) (rT_0 ρ)) (cwV 2 hts gX8_patternOf_X8_fails rfl rfl rfl (by decide +kernel) ⟨Nat.le_of_ble_eq_true rfl, Nat.le_of_ble_eq_true rfl⟩) ⟨rR.blind, qrecv hC (hW.to rLV0) rfl, rR.pre hC hW⟩ rfl rfl hl.1 rfl (lv_room (Nat.le_of_ble_eq_true rfl)) dX8_patternOf_12 ⟨Nat.le_of_ble_eq_true rfl, Nat.le_of_ble_eq_true rfl⟩) hS (fun _ h => h) (fun _ h => h) (fun H1 locs hW hz hk hS => ?_)
  refine q_eq0 (tgt := 22) hx hb (by decide) dX8_patternOf_15 (by decide) (fun g1 => (by omega)) (fun g1 => ?_)
  refine lv_iconst (v := nI 0) hx hb dX8_patternOf_18 (by decide) ?_
  refine lv_goto (tgt := 28) hx hb dX8_patternOf_19 (by decide) ?_
  exact W.iret hx hb hr (fun t ht _ => ⟨rfl, by rw [ht]; exact hW, hS.F ht⟩) hS.2.2 dX8_patternOf_28
set_option maxHeartbeats 4000000 in
set_option maxRecDepth 100000 in
theorem x_rarchive1 (l : Launch) (G : QG) (A : Nat → Prop) (ρ bd : QSt) (hF : rWF (rT ρ)) (x : Int32) (hx0 : ¬ rIn x ((rT ρ) 0 0)) : Met l yX8_archive wsX8_archive ({ frames := 2, cells := 0, slots := 0, locals := 43 } : Room) (rR G A ρ bd [.ref (bd 0 0), .int (x)]) (qWV (some (.int (nI 0))) (rW G A (qup (rT ρ) 2 0 1) bd) A) 0 0 A := by
  refine Met.ofW (cc := cX8_archive) (maxL := 2) (ret := (some .int)) (by decide) rfl ?_
  intro p e s m args below meth c s₁ B hml hv
  obtain ⟨rfl, hC, hW⟩ := hv
  have hx := B.exec
  have hb := B.bytes
  have hr := B.returns
  have hts := atoms_spec (ws := wsX8_archive) B.pre
  have hown : s.vm.findClass RX8 = some m.cls := findClass_of_methodNamed B.named
  have hlocks := B.notSynchronized
  have hB := hF.1
  have hn := hF.n
  have hS : va_S A s.heap s.heap [] := va_S.rf
  have hl := lv_entry ([.ref (bd 0 0), .int (x)]) (n := 2) (Nat.le_of_ble_eq_true rfl)
  rw [lg_entry_eq]
  generalize (lg_sl ([.ref (bd 0 0), .int (x)]) ++ List.replicate (2 - (lg_sl ([.ref (bd 0 0), .int (x)])).length) Slot.unset).toArray = ls at hl ⊢
  have hl : lv_has ls 2 [(0, .ref (bd 0 0)), (1, .int (x))] := hl
  have iRX8 : ∀ w ∈ wsX80, w ∈ wsX8_archive := by decide +kernel
  refine lv_aload_n hx hb dX8_archive_0 rfl (lv_at hl 0 rfl) ?_
  refine lv_iconst (v := nI 0) hx hb dX8_archive_1 (by decide) ?_
  refine q_put (C := RX8) (T := TX8) (N := 36) (ty := .int) (v := .int (nI 0)) hx hb hts iRX8 tyX8 tyX8_ok nmX8 hown hC.1 (hW.to rLV0) (hW.in rLV0) hS rfl 0 (by decide) (hts (.fieldLink RX8 100 "LogWeaveModel" "thrown" "I") (List.mem_of_getElem? (i := 1) (by decide +kernel))) rfl rfl (by decide +kernel) rfl rfl (Nat.le_of_ble_eq_true rfl) dX8_archive_2 (fun H1 locs hat hsz hoq hS => ?_)
  have hW := hW.upR 2 0 0 rfl rLV0 ((rLV0 (ρ := (qup ρ 2 0 0))).trans (by rw [qup_s]; rfl)) hat hoq
  have hW : rW G A (rT ρ) bd _ := hW
  refine lv_aload_n hx hb dX8_archive_5 rfl (lv_at hl 0 rfl) ?_
  refine lv_aload_n hx hb dX8_archive_6 rfl (lv_at hl 0 rfl) ?_
  refine lv_iload_n hx hb dX8_archive_7 rfl (lv_at hl 1 rfl) ?_
  refine q_v (va_runV (As := [.int (x)]) (rest := [.ref (bd 0 0)]) ⟨hx, hb, hml, hown, hts⟩ (m_rnoLine1 l G A (rT ρ) bd hF x hx0) (cwV 1 hts gX8_archive_X8_noLine rfl rfl rfl (by decide +kernel) ⟨Nat.le_of_ble_eq_true rfl, Nat.le_of_ble_eq_true rfl⟩) ⟨rR.blind, qrecv hC (hW.to rLV0) rfl, rR.pre hC hW⟩ rfl rfl hl.1 rfl (lv_room (Nat.le_of_ble_eq_true rfl)) dX8_archive_8 ⟨Nat.le_of_ble_eq_true rfl, Nat.le_of_ble_eq_true rfl⟩) hS (fun _ h => h.elim) (fun locs hS => ?_)
  refine lv_iconst (v := nI 1) hx hb dX8_archive_11 (by decide) ?_
  refine q_wv (va_runV (As := [.int (nI 1), .int (nI 1)]) (rest := []) ⟨hx, hb, hml, hown, hts⟩ (m_rfails1 l G A (rT ρ) bd hF 1 (by decide) (by decide) (rT_0 ρ)) (cwV 2 hts gX8_archive_X8_fails rfl rfl rfl (by decide +kernel) ⟨Nat.le_of_ble_eq_true rfl, Nat.le_of_ble_eq_true rfl⟩) ⟨rR.blind, qrecv hC (hW.to rLV0) rfl, rR.pre hC hW⟩ rfl rfl hl.1 rfl (lv_room (Nat.le_of_ble_eq_true rfl)) dX8_archive_12 ⟨Nat.le_of_ble_eq_true rfl, Nat.le_of_ble_eq_true rfl⟩) hS (fun _ h => h) (fun _ h => h) (fun H1 locs hW hz hk hS => ?_)
  refine q_ne0 (tgt := 42) hx hb (by decide) dX8_archive_15 (by decide) (fun g1 => ?_) (fun g1 => (by omega))
  refine lv_iconst (v := nI 0) hx hb dX8_archive_42 (by decide) ?_
  exact W.iret hx hb hr (fun t ht _ => ⟨rfl, by rw [ht]; exact hW, hS.F ht⟩) hS.2.2 dX8_archive_43
set_option maxHeartbeats 4000000 in
set_option maxRecDepth 100000 in
theorem x_risGuarded1 (l : Launch) (G : QG) (A : Nat → Prop) (ρ bd : QSt) (hF : rWF (rT ρ)) (x : Int32) (hx0 : ¬ rIn x ((rT ρ) 0 0)) : Met l yX8_isGuarded wsX8_isGuarded ({ frames := 2, cells := 0, slots := 0, locals := 43 } : Room) (rR G A ρ bd [.ref (bd 0 0), .int (x)]) (qWV (some (.int (nI 0))) (rW G A (qup (rT ρ) 2 0 1) bd) A) 0 0 A := by
  refine Met.ofW (cc := cX8_isGuarded) (maxL := 2) (ret := (some .boolean)) (by decide) rfl ?_
  intro p e s m args below meth c s₁ B hml hv
  obtain ⟨rfl, hC, hW⟩ := hv
  have hx := B.exec
  have hb := B.bytes
  have hr := B.returns
  have hts := atoms_spec (ws := wsX8_isGuarded) B.pre
  have hown : s.vm.findClass RX8 = some m.cls := findClass_of_methodNamed B.named
  have hlocks := B.notSynchronized
  have hB := hF.1
  have hn := hF.n
  have hS : va_S A s.heap s.heap [] := va_S.rf
  have hl := lv_entry ([.ref (bd 0 0), .int (x)]) (n := 2) (Nat.le_of_ble_eq_true rfl)
  rw [lg_entry_eq]
  generalize (lg_sl ([.ref (bd 0 0), .int (x)]) ++ List.replicate (2 - (lg_sl ([.ref (bd 0 0), .int (x)])).length) Slot.unset).toArray = ls at hl ⊢
  have hl : lv_has ls 2 [(0, .ref (bd 0 0)), (1, .int (x))] := hl
  have iRX8 : ∀ w ∈ wsX80, w ∈ wsX8_isGuarded := by decide +kernel
  refine lv_aload_n hx hb dX8_isGuarded_0 rfl (lv_at hl 0 rfl) ?_
  refine lv_iconst (v := nI 0) hx hb dX8_isGuarded_1 (by decide) ?_
  refine q_put (C := RX8) (T := TX8) (N := 36) (ty := .int) (v := .int (nI 0)) hx hb hts iRX8 tyX8 tyX8_ok nmX8 hown hC.1 (hW.to rLV0) (hW.in rLV0) hS rfl 0 (by decide) (hts (.fieldLink RX8 100 "LogWeaveModel" "thrown" "I") (List.mem_of_getElem? (i := 1) (by decide +kernel))) rfl rfl (by decide +kernel) rfl rfl (Nat.le_of_ble_eq_true rfl) dX8_isGuarded_2 (fun H1 locs hat hsz hoq hS => ?_)
  have hW := hW.upR 2 0 0 rfl rLV0 ((rLV0 (ρ := (qup ρ 2 0 0))).trans (by rw [qup_s]; rfl)) hat hoq
  have hW : rW G A (rT ρ) bd _ := hW
  refine lv_aload_n hx hb dX8_isGuarded_5 rfl (lv_at hl 0 rfl) ?_
  refine lv_aload_n hx hb dX8_isGuarded_6 rfl (lv_at hl 0 rfl) ?_
  refine lv_iload_n hx hb dX8_isGuarded_7 rfl (lv_at hl 1 rfl) ?_
  refine q_v (va_runV (As := [.int (x)]) (rest := [.ref (bd 0 0)]) ⟨hx, hb, hml, hown, hts⟩ (m_rnoLine1 l G A (rT ρ) bd hF x hx0) (cwV 1 hts gX8_isGuarded_X8_noLine rfl rfl rfl (by decide +kernel) ⟨Nat.le_of_ble_eq_true rfl, Nat.le_of_ble_eq_true rfl⟩) ⟨rR.blind, qrecv hC (hW.to rLV0) rfl, rR.pre hC hW⟩ rfl rfl hl.1 rfl (lv_room (Nat.le_of_ble_eq_true rfl)) dX8_isGuarded_8 ⟨Nat.le_of_ble_eq_true rfl, Nat.le_of_ble_eq_true rfl⟩) hS (fun _ h => h.elim) (fun locs hS => ?_)
  refine lv_iconst (v := nI 1) hx hb dX8_isGuarded_11 (by decide) ?_
  refine q_wv (va_runV (As := [.int (nI 1), .int (nI 1)]) (rest := []) ⟨hx, hb, hml, hown, hts⟩ (m_rfails1 l G A (rT ρ) bd hF 1 (by decide) (by decide) (rT_0 ρ)) (cwV 2 hts gX8_isGuarded_X8_fails rfl rfl rfl (by decide +kernel) ⟨Nat.le_of_ble_eq_true rfl, Nat.le_of_ble_eq_true rfl⟩) ⟨rR.blind, qrecv hC (hW.to rLV0) rfl, rR.pre hC hW⟩ rfl rfl hl.1 rfl (lv_room (Nat.le_of_ble_eq_true rfl)) dX8_isGuarded_12 ⟨Nat.le_of_ble_eq_true rfl, Nat.le_of_ble_eq_true rfl⟩) hS (fun _ h => h) (fun _ h => h) (fun H1 locs hW hz hk hS => ?_)
  refine q_ne0 (tgt := 30) hx hb (by decide) dX8_isGuarded_15 (by decide) (fun g1 => ?_) (fun g1 => (by omega))
  refine lv_iconst (v := nI 0) hx hb dX8_isGuarded_30 (by decide) ?_
  exact W.zret (v := nI 0) hx hb hr (rfl) (fun t ht _ => ⟨rfl, by rw [ht]; exact hW, hS.F ht⟩) hS.2.2 dX8_isGuarded_31
set_option maxHeartbeats 4000000 in
set_option maxRecDepth 100000 in
theorem x_ralertState1 (l : Launch) (G : QG) (A : Nat → Prop) (ρ bd : QSt) (hF : rWF (rT ρ)) (x : Int32) (hx0 : ¬ rIn x ((rT ρ) 0 2)) : Met l yX8_alertState wsX8_alertState ({ frames := 2, cells := 0, slots := 0, locals := 43 } : Room) (rR G A ρ bd [.ref (bd 0 0), .int (x)]) (qWV (some (.int (nI 0))) (rW G A (qup (rT ρ) 2 0 1) bd) A) 0 0 A := by
  refine Met.ofW (cc := cX8_alertState) (maxL := 2) (ret := (some .char)) (by decide) rfl ?_
  intro p e s m args below meth c s₁ B hml hv
  obtain ⟨rfl, hC, hW⟩ := hv
  have hx := B.exec
  have hb := B.bytes
  have hr := B.returns
  have hts := atoms_spec (ws := wsX8_alertState) B.pre
  have hown : s.vm.findClass RX8 = some m.cls := findClass_of_methodNamed B.named
  have hlocks := B.notSynchronized
  have hB := hF.1
  have hn := hF.n
  have hS : va_S A s.heap s.heap [] := va_S.rf
  have hl := lv_entry ([.ref (bd 0 0), .int (x)]) (n := 2) (Nat.le_of_ble_eq_true rfl)
  rw [lg_entry_eq]
  generalize (lg_sl ([.ref (bd 0 0), .int (x)]) ++ List.replicate (2 - (lg_sl ([.ref (bd 0 0), .int (x)])).length) Slot.unset).toArray = ls at hl ⊢
  have hl : lv_has ls 2 [(0, .ref (bd 0 0)), (1, .int (x))] := hl
  have iRX8 : ∀ w ∈ wsX80, w ∈ wsX8_alertState := by decide +kernel
  refine lv_aload_n hx hb dX8_alertState_0 rfl (lv_at hl 0 rfl) ?_
  refine lv_iconst (v := nI 0) hx hb dX8_alertState_1 (by decide) ?_
  refine q_put (C := RX8) (T := TX8) (N := 36) (ty := .int) (v := .int (nI 0)) hx hb hts iRX8 tyX8 tyX8_ok nmX8 hown hC.1 (hW.to rLV0) (hW.in rLV0) hS rfl 0 (by decide) (hts (.fieldLink RX8 100 "LogWeaveModel" "thrown" "I") (List.mem_of_getElem? (i := 1) (by decide +kernel))) rfl rfl (by decide +kernel) rfl rfl (Nat.le_of_ble_eq_true rfl) dX8_alertState_2 (fun H1 locs hat hsz hoq hS => ?_)
  have hW := hW.upR 2 0 0 rfl rLV0 ((rLV0 (ρ := (qup ρ 2 0 0))).trans (by rw [qup_s]; rfl)) hat hoq
  have hW : rW G A (rT ρ) bd _ := hW
  refine lv_aload_n hx hb dX8_alertState_5 rfl (lv_at hl 0 rfl) ?_
  refine lv_aload_n hx hb dX8_alertState_6 rfl (lv_at hl 0 rfl) ?_
  refine lv_iload_n hx hb dX8_alertState_7 rfl (lv_at hl 1 rfl) ?_
  refine q_v (va_runV (As := [.int (x)]) (rest := [.ref (bd 0 0)]) ⟨hx, hb, hml, hown, hts⟩ (m_rnoAlert1 l G A (rT ρ) bd hF x hx0) (cwV 1 hts gX8_alertState_X8_noAlert rfl rfl rfl (by decide +kernel) ⟨Nat.le_of_ble_eq_true rfl, Nat.le_of_ble_eq_true rfl⟩) ⟨rR.blind, qrecv hC (hW.to rLV0) rfl, rR.pre hC hW⟩ rfl rfl hl.1 rfl (lv_room (Nat.le_of_ble_eq_true rfl)) dX8_alertState_8 ⟨Nat.le_of_ble_eq_true rfl, Nat.le_of_ble_eq_true rfl⟩) hS (fun _ h => h.elim) (fun locs hS => ?_)
  refine lv_iconst (v := nI 1) hx hb dX8_alertState_11 (by decide) ?_
  refine q_wv (va_runV (As := [.int (nI 1), .int (nI 1)]) (rest := []) ⟨hx, hb, hml, hown, hts⟩ (m_rfails1 l G A (rT ρ) bd hF 1 (by decide) (by decide) (rT_0 ρ)) (cwV 2 hts gX8_alertState_X8_fails rfl rfl rfl (by decide +kernel) ⟨Nat.le_of_ble_eq_true rfl, Nat.le_of_ble_eq_true rfl⟩) ⟨rR.blind, qrecv hC (hW.to rLV0) rfl, rR.pre hC hW⟩ rfl rfl hl.1 rfl (lv_room (Nat.le_of_ble_eq_true rfl)) dX8_alertState_12 ⟨Nat.le_of_ble_eq_true rfl, Nat.le_of_ble_eq_true rfl⟩) hS (fun _ h => h) (fun _ h => h) (fun H1 locs hW hz hk hS => ?_)
  refine q_eq0 (tgt := 22) hx hb (by decide) dX8_alertState_15 (by decide) (fun g1 => (by omega)) (fun g1 => ?_)
  refine lv_iconst (v := nI 0) hx hb dX8_alertState_18 (by decide) ?_
  refine lv_goto (tgt := 28) hx hb dX8_alertState_19 (by decide) ?_
  exact W.zret (v := nI 0) hx hb hr (rfl) (fun t ht _ => ⟨rfl, by rw [ht]; exact hW, hS.F ht⟩) hS.2.2 dX8_alertState_28
set_option maxHeartbeats 4000000 in
set_option maxRecDepth 100000 in
theorem x_rcounted1 (l : Launch) (G : QG) (A : Nat → Prop) (ρ bd : QSt) (hF : rWF (rT ρ)) (x : Int32) (hx0 : ¬ rIn x ((rT ρ) 0 2)) : Met l yX8_counted wsX8_counted ({ frames := 2, cells := 0, slots := 0, locals := 43 } : Room) (rR G A ρ bd [.ref (bd 0 0), .int (x)]) (qWV (some (.int (nI 0))) (rW G A (qup (rT ρ) 2 0 1) bd) A) 0 0 A := by
  refine Met.ofW (cc := cX8_counted) (maxL := 2) (ret := (some .int)) (by decide) rfl ?_
  intro p e s m args below meth c s₁ B hml hv
  obtain ⟨rfl, hC, hW⟩ := hv
  have hx := B.exec
  have hb := B.bytes
  have hr := B.returns
  have hts := atoms_spec (ws := wsX8_counted) B.pre
  have hown : s.vm.findClass RX8 = some m.cls := findClass_of_methodNamed B.named
  have hlocks := B.notSynchronized
  have hB := hF.1
  have hn := hF.n
  have hS : va_S A s.heap s.heap [] := va_S.rf
  have hl := lv_entry ([.ref (bd 0 0), .int (x)]) (n := 2) (Nat.le_of_ble_eq_true rfl)
  rw [lg_entry_eq]
  generalize (lg_sl ([.ref (bd 0 0), .int (x)]) ++ List.replicate (2 - (lg_sl ([.ref (bd 0 0), .int (x)])).length) Slot.unset).toArray = ls at hl ⊢
  have hl : lv_has ls 2 [(0, .ref (bd 0 0)), (1, .int (x))] := hl
  have iRX8 : ∀ w ∈ wsX80, w ∈ wsX8_counted := by decide +kernel
  refine lv_aload_n hx hb dX8_counted_0 rfl (lv_at hl 0 rfl) ?_
  refine lv_iconst (v := nI 0) hx hb dX8_counted_1 (by decide) ?_
  refine q_put (C := RX8) (T := TX8) (N := 36) (ty := .int) (v := .int (nI 0)) hx hb hts iRX8 tyX8 tyX8_ok nmX8 hown hC.1 (hW.to rLV0) (hW.in rLV0) hS rfl 0 (by decide) (hts (.fieldLink RX8 100 "LogWeaveModel" "thrown" "I") (List.mem_of_getElem? (i := 1) (by decide +kernel))) rfl rfl (by decide +kernel) rfl rfl (Nat.le_of_ble_eq_true rfl) dX8_counted_2 (fun H1 locs hat hsz hoq hS => ?_)
  have hW := hW.upR 2 0 0 rfl rLV0 ((rLV0 (ρ := (qup ρ 2 0 0))).trans (by rw [qup_s]; rfl)) hat hoq
  have hW : rW G A (rT ρ) bd _ := hW
  refine lv_aload_n hx hb dX8_counted_5 rfl (lv_at hl 0 rfl) ?_
  refine lv_aload_n hx hb dX8_counted_6 rfl (lv_at hl 0 rfl) ?_
  refine lv_iload_n hx hb dX8_counted_7 rfl (lv_at hl 1 rfl) ?_
  refine q_v (va_runV (As := [.int (x)]) (rest := [.ref (bd 0 0)]) ⟨hx, hb, hml, hown, hts⟩ (m_rnoAlert1 l G A (rT ρ) bd hF x hx0) (cwV 1 hts gX8_counted_X8_noAlert rfl rfl rfl (by decide +kernel) ⟨Nat.le_of_ble_eq_true rfl, Nat.le_of_ble_eq_true rfl⟩) ⟨rR.blind, qrecv hC (hW.to rLV0) rfl, rR.pre hC hW⟩ rfl rfl hl.1 rfl (lv_room (Nat.le_of_ble_eq_true rfl)) dX8_counted_8 ⟨Nat.le_of_ble_eq_true rfl, Nat.le_of_ble_eq_true rfl⟩) hS (fun _ h => h.elim) (fun locs hS => ?_)
  refine lv_iconst (v := nI 1) hx hb dX8_counted_11 (by decide) ?_
  refine q_wv (va_runV (As := [.int (nI 1), .int (nI 1)]) (rest := []) ⟨hx, hb, hml, hown, hts⟩ (m_rfails1 l G A (rT ρ) bd hF 1 (by decide) (by decide) (rT_0 ρ)) (cwV 2 hts gX8_counted_X8_fails rfl rfl rfl (by decide +kernel) ⟨Nat.le_of_ble_eq_true rfl, Nat.le_of_ble_eq_true rfl⟩) ⟨rR.blind, qrecv hC (hW.to rLV0) rfl, rR.pre hC hW⟩ rfl rfl hl.1 rfl (lv_room (Nat.le_of_ble_eq_true rfl)) dX8_counted_12 ⟨Nat.le_of_ble_eq_true rfl, Nat.le_of_ble_eq_true rfl⟩) hS (fun _ h => h) (fun _ h => h) (fun H1 locs hW hz hk hS => ?_)
  refine q_eq0 (tgt := 22) hx hb (by decide) dX8_counted_15 (by decide) (fun g1 => (by omega)) (fun g1 => ?_)
  refine lv_iconst (v := nI 0) hx hb dX8_counted_18 (by decide) ?_
  refine lv_goto (tgt := 27) hx hb dX8_counted_19 (by decide) ?_
  exact W.iret hx hb hr (fun t ht _ => ⟨rfl, by rw [ht]; exact hW, hS.F ht⟩) hS.2.2 dX8_counted_27
set_option maxHeartbeats 4000000 in
set_option maxRecDepth 100000 in
theorem x_rheldFor1 (l : Launch) (G : QG) (A : Nat → Prop) (ρ bd : QSt) (hF : rWF (rT ρ)) (x : Int32) (hx0 : ¬ rIn x ((rT ρ) 0 2)) : Met l yX8_heldFor wsX8_heldFor ({ frames := 2, cells := 0, slots := 0, locals := 43 } : Room) (rR G A ρ bd [.ref (bd 0 0), .int (x)]) (qWV (some (.int (nI 0))) (rW G A (qup (rT ρ) 2 0 1) bd) A) 0 0 A := by
  refine Met.ofW (cc := cX8_heldFor) (maxL := 2) (ret := (some .int)) (by decide) rfl ?_
  intro p e s m args below meth c s₁ B hml hv
  obtain ⟨rfl, hC, hW⟩ := hv
  have hx := B.exec
  have hb := B.bytes
  have hr := B.returns
  have hts := atoms_spec (ws := wsX8_heldFor) B.pre
  have hown : s.vm.findClass RX8 = some m.cls := findClass_of_methodNamed B.named
  have hlocks := B.notSynchronized
  have hB := hF.1
  have hn := hF.n
  have hS : va_S A s.heap s.heap [] := va_S.rf
  have hl := lv_entry ([.ref (bd 0 0), .int (x)]) (n := 2) (Nat.le_of_ble_eq_true rfl)
  rw [lg_entry_eq]
  generalize (lg_sl ([.ref (bd 0 0), .int (x)]) ++ List.replicate (2 - (lg_sl ([.ref (bd 0 0), .int (x)])).length) Slot.unset).toArray = ls at hl ⊢
  have hl : lv_has ls 2 [(0, .ref (bd 0 0)), (1, .int (x))] := hl
  have iRX8 : ∀ w ∈ wsX80, w ∈ wsX8_heldFor := by decide +kernel
  refine lv_aload_n hx hb dX8_heldFor_0 rfl (lv_at hl 0 rfl) ?_
  refine lv_iconst (v := nI 0) hx hb dX8_heldFor_1 (by decide) ?_
  refine q_put (C := RX8) (T := TX8) (N := 36) (ty := .int) (v := .int (nI 0)) hx hb hts iRX8 tyX8 tyX8_ok nmX8 hown hC.1 (hW.to rLV0) (hW.in rLV0) hS rfl 0 (by decide) (hts (.fieldLink RX8 100 "LogWeaveModel" "thrown" "I") (List.mem_of_getElem? (i := 1) (by decide +kernel))) rfl rfl (by decide +kernel) rfl rfl (Nat.le_of_ble_eq_true rfl) dX8_heldFor_2 (fun H1 locs hat hsz hoq hS => ?_)
  have hW := hW.upR 2 0 0 rfl rLV0 ((rLV0 (ρ := (qup ρ 2 0 0))).trans (by rw [qup_s]; rfl)) hat hoq
  have hW : rW G A (rT ρ) bd _ := hW
  refine lv_aload_n hx hb dX8_heldFor_5 rfl (lv_at hl 0 rfl) ?_
  refine lv_aload_n hx hb dX8_heldFor_6 rfl (lv_at hl 0 rfl) ?_
  refine lv_iload_n hx hb dX8_heldFor_7 rfl (lv_at hl 1 rfl) ?_
  refine q_v (va_runV (As := [.int (x)]) (rest := [.ref (bd 0 0)]) ⟨hx, hb, hml, hown, hts⟩ (m_rnoAlert1 l G A (rT ρ) bd hF x hx0) (cwV 1 hts gX8_heldFor_X8_noAlert rfl rfl rfl (by decide +kernel) ⟨Nat.le_of_ble_eq_true rfl, Nat.le_of_ble_eq_true rfl⟩) ⟨rR.blind, qrecv hC (hW.to rLV0) rfl, rR.pre hC hW⟩ rfl rfl hl.1 rfl (lv_room (Nat.le_of_ble_eq_true rfl)) dX8_heldFor_8 ⟨Nat.le_of_ble_eq_true rfl, Nat.le_of_ble_eq_true rfl⟩) hS (fun _ h => h.elim) (fun locs hS => ?_)
  refine lv_iconst (v := nI 1) hx hb dX8_heldFor_11 (by decide) ?_
  refine q_wv (va_runV (As := [.int (nI 1), .int (nI 1)]) (rest := []) ⟨hx, hb, hml, hown, hts⟩ (m_rfails1 l G A (rT ρ) bd hF 1 (by decide) (by decide) (rT_0 ρ)) (cwV 2 hts gX8_heldFor_X8_fails rfl rfl rfl (by decide +kernel) ⟨Nat.le_of_ble_eq_true rfl, Nat.le_of_ble_eq_true rfl⟩) ⟨rR.blind, qrecv hC (hW.to rLV0) rfl, rR.pre hC hW⟩ rfl rfl hl.1 rfl (lv_room (Nat.le_of_ble_eq_true rfl)) dX8_heldFor_12 ⟨Nat.le_of_ble_eq_true rfl, Nat.le_of_ble_eq_true rfl⟩) hS (fun _ h => h) (fun _ h => h) (fun H1 locs hW hz hk hS => ?_)
  refine q_ne0 (tgt := 29) hx hb (by decide) dX8_heldFor_15 (by decide) (fun g1 => ?_) (fun g1 => (by omega))
  refine lv_iconst (v := nI 0) hx hb dX8_heldFor_29 (by decide) ?_
  refine lv_goto (tgt := 39) hx hb dX8_heldFor_30 (by decide) ?_
  exact W.iret hx hb hr (fun t ht _ => ⟨rfl, by rw [ht]; exact hW, hS.F ht⟩) hS.2.2 dX8_heldFor_39
set_option maxHeartbeats 4000000 in
set_option maxRecDepth 100000 in
theorem x_ralertOf1 (l : Launch) (G : QG) (A : Nat → Prop) (ρ bd : QSt) (hF : rWF (rT ρ)) (x : Int32) (hx0 : ¬ rIn x ((rT ρ) 0 3)) : Met l yX8_alertOf wsX8_alertOf ({ frames := 2, cells := 0, slots := 0, locals := 43 } : Room) (rR G A ρ bd [.ref (bd 0 0), .int (x)]) (qWV (some (.int (nI 0))) (rW G A (qup (rT ρ) 2 0 1) bd) A) 0 0 A := by
  refine Met.ofW (cc := cX8_alertOf) (maxL := 2) (ret := (some .int)) (by decide) rfl ?_
  intro p e s m args below meth c s₁ B hml hv
  obtain ⟨rfl, hC, hW⟩ := hv
  have hx := B.exec
  have hb := B.bytes
  have hr := B.returns
  have hts := atoms_spec (ws := wsX8_alertOf) B.pre
  have hown : s.vm.findClass RX8 = some m.cls := findClass_of_methodNamed B.named
  have hlocks := B.notSynchronized
  have hB := hF.1
  have hn := hF.n
  have hS : va_S A s.heap s.heap [] := va_S.rf
  have hl := lv_entry ([.ref (bd 0 0), .int (x)]) (n := 2) (Nat.le_of_ble_eq_true rfl)
  rw [lg_entry_eq]
  generalize (lg_sl ([.ref (bd 0 0), .int (x)]) ++ List.replicate (2 - (lg_sl ([.ref (bd 0 0), .int (x)])).length) Slot.unset).toArray = ls at hl ⊢
  have hl : lv_has ls 2 [(0, .ref (bd 0 0)), (1, .int (x))] := hl
  have iRX8 : ∀ w ∈ wsX80, w ∈ wsX8_alertOf := by decide +kernel
  refine lv_aload_n hx hb dX8_alertOf_0 rfl (lv_at hl 0 rfl) ?_
  refine lv_iconst (v := nI 0) hx hb dX8_alertOf_1 (by decide) ?_
  refine q_put (C := RX8) (T := TX8) (N := 36) (ty := .int) (v := .int (nI 0)) hx hb hts iRX8 tyX8 tyX8_ok nmX8 hown hC.1 (hW.to rLV0) (hW.in rLV0) hS rfl 0 (by decide) (hts (.fieldLink RX8 100 "LogWeaveModel" "thrown" "I") (List.mem_of_getElem? (i := 1) (by decide +kernel))) rfl rfl (by decide +kernel) rfl rfl (Nat.le_of_ble_eq_true rfl) dX8_alertOf_2 (fun H1 locs hat hsz hoq hS => ?_)
  have hW := hW.upR 2 0 0 rfl rLV0 ((rLV0 (ρ := (qup ρ 2 0 0))).trans (by rw [qup_s]; rfl)) hat hoq
  have hW : rW G A (rT ρ) bd _ := hW
  refine lv_aload_n hx hb dX8_alertOf_5 rfl (lv_at hl 0 rfl) ?_
  refine lv_aload_n hx hb dX8_alertOf_6 rfl (lv_at hl 0 rfl) ?_
  refine lv_iload_n hx hb dX8_alertOf_7 rfl (lv_at hl 1 rfl) ?_
  refine q_v (va_runV (As := [.int (x)]) (rest := [.ref (bd 0 0)]) ⟨hx, hb, hml, hown, hts⟩ (m_rnoFiring1 l G A (rT ρ) bd hF x hx0) (cwV 1 hts gX8_alertOf_X8_noFiring rfl rfl rfl (by decide +kernel) ⟨Nat.le_of_ble_eq_true rfl, Nat.le_of_ble_eq_true rfl⟩) ⟨rR.blind, qrecv hC (hW.to rLV0) rfl, rR.pre hC hW⟩ rfl rfl hl.1 rfl (lv_room (Nat.le_of_ble_eq_true rfl)) dX8_alertOf_8 ⟨Nat.le_of_ble_eq_true rfl, Nat.le_of_ble_eq_true rfl⟩) hS (fun _ h => h.elim) (fun locs hS => ?_)
  refine lv_iconst (v := nI 1) hx hb dX8_alertOf_11 (by decide) ?_
  refine q_wv (va_runV (As := [.int (nI 1), .int (nI 1)]) (rest := []) ⟨hx, hb, hml, hown, hts⟩ (m_rfails1 l G A (rT ρ) bd hF 1 (by decide) (by decide) (rT_0 ρ)) (cwV 2 hts gX8_alertOf_X8_fails rfl rfl rfl (by decide +kernel) ⟨Nat.le_of_ble_eq_true rfl, Nat.le_of_ble_eq_true rfl⟩) ⟨rR.blind, qrecv hC (hW.to rLV0) rfl, rR.pre hC hW⟩ rfl rfl hl.1 rfl (lv_room (Nat.le_of_ble_eq_true rfl)) dX8_alertOf_12 ⟨Nat.le_of_ble_eq_true rfl, Nat.le_of_ble_eq_true rfl⟩) hS (fun _ h => h) (fun _ h => h) (fun H1 locs hW hz hk hS => ?_)
  refine q_eq0 (tgt := 22) hx hb (by decide) dX8_alertOf_15 (by decide) (fun g1 => (by omega)) (fun g1 => ?_)
  refine lv_iconst (v := nI 0) hx hb dX8_alertOf_18 (by decide) ?_
  refine lv_goto (tgt := 28) hx hb dX8_alertOf_19 (by decide) ?_
  exact W.iret hx hb hr (fun t ht _ => ⟨rfl, by rw [ht]; exact hW, hS.F ht⟩) hS.2.2 dX8_alertOf_28
set_option maxHeartbeats 4000000 in
set_option maxRecDepth 100000 in
theorem x_rfiredAt1 (l : Launch) (G : QG) (A : Nat → Prop) (ρ bd : QSt) (hF : rWF (rT ρ)) (x : Int32) (hx0 : ¬ rIn x ((rT ρ) 0 3)) : Met l yX8_firedAt wsX8_firedAt ({ frames := 2, cells := 0, slots := 0, locals := 43 } : Room) (rR G A ρ bd [.ref (bd 0 0), .int (x)]) (qWV (some (.int (nI 0))) (rW G A (qup (rT ρ) 2 0 1) bd) A) 0 0 A := by
  refine Met.ofW (cc := cX8_firedAt) (maxL := 2) (ret := (some .int)) (by decide) rfl ?_
  intro p e s m args below meth c s₁ B hml hv
  obtain ⟨rfl, hC, hW⟩ := hv
  have hx := B.exec
  have hb := B.bytes
  have hr := B.returns
  have hts := atoms_spec (ws := wsX8_firedAt) B.pre
  have hown : s.vm.findClass RX8 = some m.cls := findClass_of_methodNamed B.named
  have hlocks := B.notSynchronized
  have hB := hF.1
  have hn := hF.n
  have hS : va_S A s.heap s.heap [] := va_S.rf
  have hl := lv_entry ([.ref (bd 0 0), .int (x)]) (n := 2) (Nat.le_of_ble_eq_true rfl)
  rw [lg_entry_eq]
  generalize (lg_sl ([.ref (bd 0 0), .int (x)]) ++ List.replicate (2 - (lg_sl ([.ref (bd 0 0), .int (x)])).length) Slot.unset).toArray = ls at hl ⊢
  have hl : lv_has ls 2 [(0, .ref (bd 0 0)), (1, .int (x))] := hl
  have iRX8 : ∀ w ∈ wsX80, w ∈ wsX8_firedAt := by decide +kernel
  refine lv_aload_n hx hb dX8_firedAt_0 rfl (lv_at hl 0 rfl) ?_
  refine lv_iconst (v := nI 0) hx hb dX8_firedAt_1 (by decide) ?_
  refine q_put (C := RX8) (T := TX8) (N := 36) (ty := .int) (v := .int (nI 0)) hx hb hts iRX8 tyX8 tyX8_ok nmX8 hown hC.1 (hW.to rLV0) (hW.in rLV0) hS rfl 0 (by decide) (hts (.fieldLink RX8 100 "LogWeaveModel" "thrown" "I") (List.mem_of_getElem? (i := 1) (by decide +kernel))) rfl rfl (by decide +kernel) rfl rfl (Nat.le_of_ble_eq_true rfl) dX8_firedAt_2 (fun H1 locs hat hsz hoq hS => ?_)
  have hW := hW.upR 2 0 0 rfl rLV0 ((rLV0 (ρ := (qup ρ 2 0 0))).trans (by rw [qup_s]; rfl)) hat hoq
  have hW : rW G A (rT ρ) bd _ := hW
  refine lv_aload_n hx hb dX8_firedAt_5 rfl (lv_at hl 0 rfl) ?_
  refine lv_aload_n hx hb dX8_firedAt_6 rfl (lv_at hl 0 rfl) ?_
  refine lv_iload_n hx hb dX8_firedAt_7 rfl (lv_at hl 1 rfl) ?_
  refine q_v (va_runV (As := [.int (x)]) (rest := [.ref (bd 0 0)]) ⟨hx, hb, hml, hown, hts⟩ (m_rnoFiring1 l G A (rT ρ) bd hF x hx0) (cwV 1 hts gX8_firedAt_X8_noFiring rfl rfl rfl (by decide +kernel) ⟨Nat.le_of_ble_eq_true rfl, Nat.le_of_ble_eq_true rfl⟩) ⟨rR.blind, qrecv hC (hW.to rLV0) rfl, rR.pre hC hW⟩ rfl rfl hl.1 rfl (lv_room (Nat.le_of_ble_eq_true rfl)) dX8_firedAt_8 ⟨Nat.le_of_ble_eq_true rfl, Nat.le_of_ble_eq_true rfl⟩) hS (fun _ h => h.elim) (fun locs hS => ?_)
  refine lv_iconst (v := nI 1) hx hb dX8_firedAt_11 (by decide) ?_
  refine q_wv (va_runV (As := [.int (nI 1), .int (nI 1)]) (rest := []) ⟨hx, hb, hml, hown, hts⟩ (m_rfails1 l G A (rT ρ) bd hF 1 (by decide) (by decide) (rT_0 ρ)) (cwV 2 hts gX8_firedAt_X8_fails rfl rfl rfl (by decide +kernel) ⟨Nat.le_of_ble_eq_true rfl, Nat.le_of_ble_eq_true rfl⟩) ⟨rR.blind, qrecv hC (hW.to rLV0) rfl, rR.pre hC hW⟩ rfl rfl hl.1 rfl (lv_room (Nat.le_of_ble_eq_true rfl)) dX8_firedAt_12 ⟨Nat.le_of_ble_eq_true rfl, Nat.le_of_ble_eq_true rfl⟩) hS (fun _ h => h) (fun _ h => h) (fun H1 locs hW hz hk hS => ?_)
  refine q_eq0 (tgt := 22) hx hb (by decide) dX8_firedAt_15 (by decide) (fun g1 => (by omega)) (fun g1 => ?_)
  refine lv_iconst (v := nI 0) hx hb dX8_firedAt_18 (by decide) ?_
  refine lv_goto (tgt := 28) hx hb dX8_firedAt_19 (by decide) ?_
  exact W.iret hx hb hr (fun t ht _ => ⟨rfl, by rw [ht]; exact hW, hS.F ht⟩) hS.2.2 dX8_firedAt_28
set_option maxHeartbeats 4000000 in
set_option maxRecDepth 100000 in
theorem x_rground1 (l : Launch) (G : QG) (A : Nat → Prop) (ρ bd : QSt) (hF : rWF (rT ρ)) (x : Int32) (hx0 : ¬ rIn x ((rT ρ) 0 3)) : Met l yX8_ground wsX8_ground ({ frames := 2, cells := 0, slots := 0, locals := 43 } : Room) (rR G A ρ bd [.ref (bd 0 0), .int (x)]) (qWV (some (.int (nI 0))) (rW G A (qup (rT ρ) 2 0 1) bd) A) 0 0 A := by
  refine Met.ofW (cc := cX8_ground) (maxL := 4) (ret := (some .int)) (by decide) rfl ?_
  intro p e s m args below meth c s₁ B hml hv
  obtain ⟨rfl, hC, hW⟩ := hv
  have hx := B.exec
  have hb := B.bytes
  have hr := B.returns
  have hts := atoms_spec (ws := wsX8_ground) B.pre
  have hown : s.vm.findClass RX8 = some m.cls := findClass_of_methodNamed B.named
  have hlocks := B.notSynchronized
  have hB := hF.1
  have hn := hF.n
  have hS : va_S A s.heap s.heap [] := va_S.rf
  have hl := lv_entry ([.ref (bd 0 0), .int (x)]) (n := 4) (Nat.le_of_ble_eq_true rfl)
  rw [lg_entry_eq]
  generalize (lg_sl ([.ref (bd 0 0), .int (x)]) ++ List.replicate (4 - (lg_sl ([.ref (bd 0 0), .int (x)])).length) Slot.unset).toArray = ls at hl ⊢
  have hl : lv_has ls 4 [(0, .ref (bd 0 0)), (1, .int (x))] := hl
  have iRX8 : ∀ w ∈ wsX80, w ∈ wsX8_ground := by decide +kernel
  refine lv_aload_n hx hb dX8_ground_0 rfl (lv_at hl 0 rfl) ?_
  refine lv_iconst (v := nI 0) hx hb dX8_ground_1 (by decide) ?_
  refine q_put (C := RX8) (T := TX8) (N := 36) (ty := .int) (v := .int (nI 0)) hx hb hts iRX8 tyX8 tyX8_ok nmX8 hown hC.1 (hW.to rLV0) (hW.in rLV0) hS rfl 0 (by decide) (hts (.fieldLink RX8 100 "LogWeaveModel" "thrown" "I") (List.mem_of_getElem? (i := 1) (by decide +kernel))) rfl rfl (by decide +kernel) rfl rfl (Nat.le_of_ble_eq_true rfl) dX8_ground_2 (fun H1 locs hat hsz hoq hS => ?_)
  have hW := hW.upR 2 0 0 rfl rLV0 ((rLV0 (ρ := (qup ρ 2 0 0))).trans (by rw [qup_s]; rfl)) hat hoq
  have hW : rW G A (rT ρ) bd _ := hW
  refine lv_aload_n hx hb dX8_ground_5 rfl (lv_at hl 0 rfl) ?_
  refine lv_aload_n hx hb dX8_ground_6 rfl (lv_at hl 0 rfl) ?_
  refine lv_iload_n hx hb dX8_ground_7 rfl (lv_at hl 1 rfl) ?_
  refine q_v (va_runV (As := [.int (x)]) (rest := [.ref (bd 0 0)]) ⟨hx, hb, hml, hown, hts⟩ (m_rnoFiring1 l G A (rT ρ) bd hF x hx0) (cwV 1 hts gX8_ground_X8_noFiring rfl rfl rfl (by decide +kernel) ⟨Nat.le_of_ble_eq_true rfl, Nat.le_of_ble_eq_true rfl⟩) ⟨rR.blind, qrecv hC (hW.to rLV0) rfl, rR.pre hC hW⟩ rfl rfl hl.1 rfl (lv_room (Nat.le_of_ble_eq_true rfl)) dX8_ground_8 ⟨Nat.le_of_ble_eq_true rfl, Nat.le_of_ble_eq_true rfl⟩) hS (fun _ h => h.elim) (fun locs hS => ?_)
  refine lv_iconst (v := nI 1) hx hb dX8_ground_11 (by decide) ?_
  refine q_wv (va_runV (As := [.int (nI 1), .int (nI 1)]) (rest := []) ⟨hx, hb, hml, hown, hts⟩ (m_rfails1 l G A (rT ρ) bd hF 1 (by decide) (by decide) (rT_0 ρ)) (cwV 2 hts gX8_ground_X8_fails rfl rfl rfl (by decide +kernel) ⟨Nat.le_of_ble_eq_true rfl, Nat.le_of_ble_eq_true rfl⟩) ⟨rR.blind, qrecv hC (hW.to rLV0) rfl, rR.pre hC hW⟩ rfl rfl hl.1 rfl (lv_room (Nat.le_of_ble_eq_true rfl)) dX8_ground_12 ⟨Nat.le_of_ble_eq_true rfl, Nat.le_of_ble_eq_true rfl⟩) hS (fun _ h => h) (fun _ h => h) (fun H1 locs hW hz hk hS => ?_)
  refine q_eq0 (tgt := 20) hx hb (by decide) dX8_ground_15 (by decide) (fun g1 => (by omega)) (fun g1 => ?_)
  refine lv_iconst (v := nI 0) hx hb dX8_ground_18 (by decide) ?_
  exact W.iret hx hb hr (fun t ht _ => ⟨rfl, by rw [ht]; exact hW, hS.F ht⟩) hS.2.2 dX8_ground_19
set_option maxHeartbeats 4000000 in
set_option maxRecDepth 100000 in
theorem x_rrelease1 (l : Launch) (G : QG) (A : Nat → Prop) (ρ bd : QSt) (hF : rWF (rT ρ)) (x : Int32) (hx0 : ¬ rIn x ((rT ρ) 0 3)) : Met l yX8_release wsX8_release ({ frames := 2, cells := 0, slots := 0, locals := 43 } : Room) (rR G A ρ bd [.ref (bd 0 0), .int (x)]) (qWV (some (.int (nI 0))) (rW G A (qup (rT ρ) 2 0 1) bd) A) 0 0 A := by
  refine Met.ofW (cc := cX8_release) (maxL := 2) (ret := (some .int)) (by decide) rfl ?_
  intro p e s m args below meth c s₁ B hml hv
  obtain ⟨rfl, hC, hW⟩ := hv
  have hx := B.exec
  have hb := B.bytes
  have hr := B.returns
  have hts := atoms_spec (ws := wsX8_release) B.pre
  have hown : s.vm.findClass RX8 = some m.cls := findClass_of_methodNamed B.named
  have hlocks := B.notSynchronized
  have hB := hF.1
  have hn := hF.n
  have hS : va_S A s.heap s.heap [] := va_S.rf
  have hl := lv_entry ([.ref (bd 0 0), .int (x)]) (n := 2) (Nat.le_of_ble_eq_true rfl)
  rw [lg_entry_eq]
  generalize (lg_sl ([.ref (bd 0 0), .int (x)]) ++ List.replicate (2 - (lg_sl ([.ref (bd 0 0), .int (x)])).length) Slot.unset).toArray = ls at hl ⊢
  have hl : lv_has ls 2 [(0, .ref (bd 0 0)), (1, .int (x))] := hl
  have iRX8 : ∀ w ∈ wsX80, w ∈ wsX8_release := by decide +kernel
  refine lv_aload_n hx hb dX8_release_0 rfl (lv_at hl 0 rfl) ?_
  refine lv_iconst (v := nI 0) hx hb dX8_release_1 (by decide) ?_
  refine q_put (C := RX8) (T := TX8) (N := 36) (ty := .int) (v := .int (nI 0)) hx hb hts iRX8 tyX8 tyX8_ok nmX8 hown hC.1 (hW.to rLV0) (hW.in rLV0) hS rfl 0 (by decide) (hts (.fieldLink RX8 100 "LogWeaveModel" "thrown" "I") (List.mem_of_getElem? (i := 1) (by decide +kernel))) rfl rfl (by decide +kernel) rfl rfl (Nat.le_of_ble_eq_true rfl) dX8_release_2 (fun H1 locs hat hsz hoq hS => ?_)
  have hW := hW.upR 2 0 0 rfl rLV0 ((rLV0 (ρ := (qup ρ 2 0 0))).trans (by rw [qup_s]; rfl)) hat hoq
  have hW : rW G A (rT ρ) bd _ := hW
  refine lv_aload_n hx hb dX8_release_5 rfl (lv_at hl 0 rfl) ?_
  refine lv_aload_n hx hb dX8_release_6 rfl (lv_at hl 0 rfl) ?_
  refine lv_iload_n hx hb dX8_release_7 rfl (lv_at hl 1 rfl) ?_
  refine q_v (va_runV (As := [.int (x)]) (rest := [.ref (bd 0 0)]) ⟨hx, hb, hml, hown, hts⟩ (m_rnoFiring1 l G A (rT ρ) bd hF x hx0) (cwV 1 hts gX8_release_X8_noFiring rfl rfl rfl (by decide +kernel) ⟨Nat.le_of_ble_eq_true rfl, Nat.le_of_ble_eq_true rfl⟩) ⟨rR.blind, qrecv hC (hW.to rLV0) rfl, rR.pre hC hW⟩ rfl rfl hl.1 rfl (lv_room (Nat.le_of_ble_eq_true rfl)) dX8_release_8 ⟨Nat.le_of_ble_eq_true rfl, Nat.le_of_ble_eq_true rfl⟩) hS (fun _ h => h.elim) (fun locs hS => ?_)
  refine lv_iconst (v := nI 1) hx hb dX8_release_11 (by decide) ?_
  refine q_wv (va_runV (As := [.int (nI 1), .int (nI 1)]) (rest := []) ⟨hx, hb, hml, hown, hts⟩ (m_rfails1 l G A (rT ρ) bd hF 1 (by decide) (by decide) (rT_0 ρ)) (cwV 2 hts gX8_release_X8_fails rfl rfl rfl (by decide +kernel) ⟨Nat.le_of_ble_eq_true rfl, Nat.le_of_ble_eq_true rfl⟩) ⟨rR.blind, qrecv hC (hW.to rLV0) rfl, rR.pre hC hW⟩ rfl rfl hl.1 rfl (lv_room (Nat.le_of_ble_eq_true rfl)) dX8_release_12 ⟨Nat.le_of_ble_eq_true rfl, Nat.le_of_ble_eq_true rfl⟩) hS (fun _ h => h) (fun _ h => h) (fun H1 locs hW hz hk hS => ?_)
  refine q_ne0 (tgt := 76) hx hb (by decide) dX8_release_15 (by decide) (fun g1 => ?_) (fun g1 => (by omega))
  refine lv_iconst (v := nI 0) hx hb dX8_release_76 (by decide) ?_
  exact W.iret hx hb hr (fun t ht _ => ⟨rfl, by rw [ht]; exact hW, hS.F ht⟩) hS.2.2 dX8_release_77
set_option maxHeartbeats 4000000 in
set_option maxRecDepth 100000 in
theorem x_rlinesOf1 (l : Launch) (G : QG) (A : Nat → Prop) (ρ bd : QSt) (hF : rWF (rT ρ)) (x : Int32) (hx0 : ¬ rIn x ((rT ρ) 0 1)) : Met l yX8_linesOf wsX8_linesOf ({ frames := 2, cells := 0, slots := 0, locals := 43 } : Room) (rR G A ρ bd [.ref (bd 0 0), .int (x)]) (qWV (some (.int (nI 0))) (rW G A (qup (rT ρ) 2 0 1) bd) A) 0 0 A := by
  refine Met.ofW (cc := cX8_linesOf) (maxL := 4) (ret := (some .int)) (by decide) rfl ?_
  intro p e s m args below meth c s₁ B hml hv
  obtain ⟨rfl, hC, hW⟩ := hv
  have hx := B.exec
  have hb := B.bytes
  have hr := B.returns
  have hts := atoms_spec (ws := wsX8_linesOf) B.pre
  have hown : s.vm.findClass RX8 = some m.cls := findClass_of_methodNamed B.named
  have hlocks := B.notSynchronized
  have hB := hF.1
  have hn := hF.n
  have hS : va_S A s.heap s.heap [] := va_S.rf
  have hl := lv_entry ([.ref (bd 0 0), .int (x)]) (n := 4) (Nat.le_of_ble_eq_true rfl)
  rw [lg_entry_eq]
  generalize (lg_sl ([.ref (bd 0 0), .int (x)]) ++ List.replicate (4 - (lg_sl ([.ref (bd 0 0), .int (x)])).length) Slot.unset).toArray = ls at hl ⊢
  have hl : lv_has ls 4 [(0, .ref (bd 0 0)), (1, .int (x))] := hl
  have iRX8 : ∀ w ∈ wsX80, w ∈ wsX8_linesOf := by decide +kernel
  refine lv_aload_n hx hb dX8_linesOf_0 rfl (lv_at hl 0 rfl) ?_
  refine lv_iconst (v := nI 0) hx hb dX8_linesOf_1 (by decide) ?_
  refine q_put (C := RX8) (T := TX8) (N := 36) (ty := .int) (v := .int (nI 0)) hx hb hts iRX8 tyX8 tyX8_ok nmX8 hown hC.1 (hW.to rLV0) (hW.in rLV0) hS rfl 0 (by decide) (hts (.fieldLink RX8 100 "LogWeaveModel" "thrown" "I") (List.mem_of_getElem? (i := 1) (by decide +kernel))) rfl rfl (by decide +kernel) rfl rfl (Nat.le_of_ble_eq_true rfl) dX8_linesOf_2 (fun H1 locs hat hsz hoq hS => ?_)
  have hW := hW.upR 2 0 0 rfl rLV0 ((rLV0 (ρ := (qup ρ 2 0 0))).trans (by rw [qup_s]; rfl)) hat hoq
  have hW : rW G A (rT ρ) bd _ := hW
  refine lv_aload_n hx hb dX8_linesOf_5 rfl (lv_at hl 0 rfl) ?_
  refine lv_aload_n hx hb dX8_linesOf_6 rfl (lv_at hl 0 rfl) ?_
  refine lv_iload_n hx hb dX8_linesOf_7 rfl (lv_at hl 1 rfl) ?_
  refine q_v (va_runV (As := [.int (x)]) (rest := [.ref (bd 0 0)]) ⟨hx, hb, hml, hown, hts⟩ (m_rnoPattern2 l G A (rT ρ) bd hF x hx0) (cwV 1 hts gX8_linesOf_X8_noPattern rfl rfl rfl (by decide +kernel) ⟨Nat.le_of_ble_eq_true rfl, Nat.le_of_ble_eq_true rfl⟩) ⟨rR.blind, qrecv hC (hW.to rLV0) rfl, rR.pre hC hW⟩ rfl rfl hl.1 rfl (lv_room (Nat.le_of_ble_eq_true rfl)) dX8_linesOf_8 ⟨Nat.le_of_ble_eq_true rfl, Nat.le_of_ble_eq_true rfl⟩) hS (fun _ h => h.elim) (fun locs hS => ?_)
  refine lv_iconst (v := nI 1) hx hb dX8_linesOf_11 (by decide) ?_
  refine q_wv (va_runV (As := [.int (nI 1), .int (nI 1)]) (rest := []) ⟨hx, hb, hml, hown, hts⟩ (m_rfails1 l G A (rT ρ) bd hF 1 (by decide) (by decide) (rT_0 ρ)) (cwV 2 hts gX8_linesOf_X8_fails rfl rfl rfl (by decide +kernel) ⟨Nat.le_of_ble_eq_true rfl, Nat.le_of_ble_eq_true rfl⟩) ⟨rR.blind, qrecv hC (hW.to rLV0) rfl, rR.pre hC hW⟩ rfl rfl hl.1 rfl (lv_room (Nat.le_of_ble_eq_true rfl)) dX8_linesOf_12 ⟨Nat.le_of_ble_eq_true rfl, Nat.le_of_ble_eq_true rfl⟩) hS (fun _ h => h) (fun _ h => h) (fun H1 locs hW hz hk hS => ?_)
  refine q_eq0 (tgt := 20) hx hb (by decide) dX8_linesOf_15 (by decide) (fun g1 => (by omega)) (fun g1 => ?_)
  refine lv_iconst (v := nI 0) hx hb dX8_linesOf_18 (by decide) ?_
  exact W.iret hx hb hr (fun t ht _ => ⟨rfl, by rw [ht]; exact hW, hS.F ht⟩) hS.2.2 dX8_linesOf_19
set_option maxHeartbeats 4000000 in
set_option maxRecDepth 100000 in
theorem x_rcountedAnew1 (l : Launch) (G : QG) (A : Nat → Prop) (ρ bd : QSt) (hF : rWF (rT ρ)) (x : Int32) (hx0 : ¬ rIn x ((rT ρ) 0 2)) : Met l yX8_countedAnew wsX8_countedAnew ({ frames := 3, cells := 0, slots := 0, locals := 64 } : Room) (rR G A ρ bd [.ref (bd 0 0), .int (x)]) (qWV (some (.int (nI 0))) (rW G A (qup (rT ρ) 2 0 1) bd) A) 0 0 A := by
  refine Met.ofW (cc := cX8_countedAnew) (maxL := 2) (ret := (some .int)) (by decide) rfl ?_
  intro p e s m args below meth c s₁ B hml hv
  obtain ⟨rfl, hC, hW⟩ := hv
  have hx := B.exec
  have hb := B.bytes
  have hr := B.returns
  have hts := atoms_spec (ws := wsX8_countedAnew) B.pre
  have hown : s.vm.findClass RX8 = some m.cls := findClass_of_methodNamed B.named
  have hlocks := B.notSynchronized
  have hB := hF.1
  have hn := hF.n
  have hS : va_S A s.heap s.heap [] := va_S.rf
  have hl := lv_entry ([.ref (bd 0 0), .int (x)]) (n := 2) (Nat.le_of_ble_eq_true rfl)
  rw [lg_entry_eq]
  generalize (lg_sl ([.ref (bd 0 0), .int (x)]) ++ List.replicate (2 - (lg_sl ([.ref (bd 0 0), .int (x)])).length) Slot.unset).toArray = ls at hl ⊢
  have hl : lv_has ls 2 [(0, .ref (bd 0 0)), (1, .int (x))] := hl
  have iRX8 : ∀ w ∈ wsX80, w ∈ wsX8_countedAnew := by decide +kernel
  refine lv_aload_n hx hb dX8_countedAnew_0 rfl (lv_at hl 0 rfl) ?_
  refine lv_iload_n hx hb dX8_countedAnew_1 rfl (lv_at hl 1 rfl) ?_
  refine q_wv (va_runV (As := [.int (x)]) (rest := []) ⟨hx, hb, hml, hown, hts⟩ (x_rcounted1 l G A ρ bd hF x hx0) (cwV 1 hts gX8_countedAnew_X8_counted rfl rfl rfl (by decide +kernel) ⟨Nat.le_of_ble_eq_true rfl, Nat.le_of_ble_eq_true rfl⟩) ⟨rR.blind, qrecv hC (hW.to rLV0) rfl, rR.pre hC hW⟩ rfl rfl hl.1 rfl (lv_room (Nat.le_of_ble_eq_true rfl)) dX8_countedAnew_2 ⟨Nat.le_of_ble_eq_true rfl, Nat.le_of_ble_eq_true rfl⟩) hS (fun _ h => h) (fun _ h => h) (fun H1 locs hW hz hk hS => ?_)
  exact W.iret hx hb hr (fun t ht _ => ⟨rfl, by rw [ht]; exact hW, hS.F ht⟩) hS.2.2 dX8_countedAnew_5
set_option maxHeartbeats 4000000 in
set_option maxRecDepth 100000 in
theorem x_rwordAt1 (l : Launch) (G : QG) (A : Nat → Prop) (ρ bd : QSt) (hF : rWF (rT ρ)) (x : Int32) (hx0 : ¬ rIn x ((rT ρ) 0 1)) (y : Int32) : Met l yX8_wordAt wsX8_wordAt ({ frames := 2, cells := 0, slots := 0, locals := 43 } : Room) (rR G A ρ bd [.ref (bd 0 0), .int (x), .int (y)]) (qWV (some (.int (nI 0))) (rW G A (qup (rT ρ) 2 0 1) bd) A) 0 0 A := by
  refine Met.ofW (cc := cX8_wordAt) (maxL := 3) (ret := (some .int)) (by decide) rfl ?_
  intro p e s m args below meth c s₁ B hml hv
  obtain ⟨rfl, hC, hW⟩ := hv
  have hx := B.exec
  have hb := B.bytes
  have hr := B.returns
  have hts := atoms_spec (ws := wsX8_wordAt) B.pre
  have hown : s.vm.findClass RX8 = some m.cls := findClass_of_methodNamed B.named
  have hlocks := B.notSynchronized
  have hB := hF.1
  have hn := hF.n
  have hS : va_S A s.heap s.heap [] := va_S.rf
  have hl := lv_entry ([.ref (bd 0 0), .int (x), .int (y)]) (n := 3) (Nat.le_of_ble_eq_true rfl)
  rw [lg_entry_eq]
  generalize (lg_sl ([.ref (bd 0 0), .int (x), .int (y)]) ++ List.replicate (3 - (lg_sl ([.ref (bd 0 0), .int (x), .int (y)])).length) Slot.unset).toArray = ls at hl ⊢
  have hl : lv_has ls 3 [(0, .ref (bd 0 0)), (1, .int (x)), (2, .int (y))] := hl
  have iRX8 : ∀ w ∈ wsX80, w ∈ wsX8_wordAt := by decide +kernel
  refine lv_aload_n hx hb dX8_wordAt_0 rfl (lv_at hl 0 rfl) ?_
  refine lv_iconst (v := nI 0) hx hb dX8_wordAt_1 (by decide) ?_
  refine q_put (C := RX8) (T := TX8) (N := 36) (ty := .int) (v := .int (nI 0)) hx hb hts iRX8 tyX8 tyX8_ok nmX8 hown hC.1 (hW.to rLV0) (hW.in rLV0) hS rfl 0 (by decide) (hts (.fieldLink RX8 100 "LogWeaveModel" "thrown" "I") (List.mem_of_getElem? (i := 1) (by decide +kernel))) rfl rfl (by decide +kernel) rfl rfl (Nat.le_of_ble_eq_true rfl) dX8_wordAt_2 (fun H1 locs hat hsz hoq hS => ?_)
  have hW := hW.upR 2 0 0 rfl rLV0 ((rLV0 (ρ := (qup ρ 2 0 0))).trans (by rw [qup_s]; rfl)) hat hoq
  have hW : rW G A (rT ρ) bd _ := hW
  refine lv_aload_n hx hb dX8_wordAt_5 rfl (lv_at hl 0 rfl) ?_
  refine lv_aload_n hx hb dX8_wordAt_6 rfl (lv_at hl 0 rfl) ?_
  refine lv_iload_n hx hb dX8_wordAt_7 rfl (lv_at hl 1 rfl) ?_
  refine q_v (va_runV (As := [.int (x)]) (rest := [.ref (bd 0 0)]) ⟨hx, hb, hml, hown, hts⟩ (m_rnoPattern2 l G A (rT ρ) bd hF x hx0) (cwV 1 hts gX8_wordAt_X8_noPattern rfl rfl rfl (by decide +kernel) ⟨Nat.le_of_ble_eq_true rfl, Nat.le_of_ble_eq_true rfl⟩) ⟨rR.blind, qrecv hC (hW.to rLV0) rfl, rR.pre hC hW⟩ rfl rfl hl.1 rfl (lv_room (Nat.le_of_ble_eq_true rfl)) dX8_wordAt_8 ⟨Nat.le_of_ble_eq_true rfl, Nat.le_of_ble_eq_true rfl⟩) hS (fun _ h => h.elim) (fun locs hS => ?_)
  refine lv_iconst (v := nI 1) hx hb dX8_wordAt_11 (by decide) ?_
  refine q_wv (va_runV (As := [.int (nI 1), .int (nI 1)]) (rest := []) ⟨hx, hb, hml, hown, hts⟩ (m_rfails1 l G A (rT ρ) bd hF 1 (by decide) (by decide) (rT_0 ρ)) (cwV 2 hts gX8_wordAt_X8_fails rfl rfl rfl (by decide +kernel) ⟨Nat.le_of_ble_eq_true rfl, Nat.le_of_ble_eq_true rfl⟩) ⟨rR.blind, qrecv hC (hW.to rLV0) rfl, rR.pre hC hW⟩ rfl rfl hl.1 rfl (lv_room (Nat.le_of_ble_eq_true rfl)) dX8_wordAt_12 ⟨Nat.le_of_ble_eq_true rfl, Nat.le_of_ble_eq_true rfl⟩) hS (fun _ h => h) (fun _ h => h) (fun H1 locs hW hz hk hS => ?_)
  refine q_ne0 (tgt := 40) hx hb (by decide) dX8_wordAt_15 (by decide) (fun g1 => ?_) (fun g1 => (by omega))
  refine lv_iconst (v := nI 0) hx hb dX8_wordAt_40 (by decide) ?_
  refine lv_goto (tgt := 54) hx hb dX8_wordAt_41 (by decide) ?_
  exact W.iret hx hb hr (fun t ht _ => ⟨rfl, by rw [ht]; exact hW, hS.F ht⟩) hS.2.2 dX8_wordAt_54
set_option maxHeartbeats 4000000 in
set_option maxRecDepth 100000 in
theorem x_rwordAt1m (l : Launch) (G : QG) (A : Nat → Prop) (ρ bd : QSt) (hF : rWF (rT ρ)) (p0 : Nat) (hp : p0 < (rT ρ) 0 1) (hm : (rT ρ) 97 p0 ≠ 0) (y : Int32) : Met l yX8_wordAt wsX8_wordAt ({ frames := 2, cells := 0, slots := 0, locals := 43 } : Room) (rR G A ρ bd [.ref (bd 0 0), .int (nI p0), .int (y)]) (qWV (some (.int (nI 0))) (rW G A (qup (rT ρ) 2 0 1) bd) A) 0 0 A := by
  refine Met.ofW (cc := cX8_wordAt) (maxL := 3) (ret := (some .int)) (by decide) rfl ?_
  intro p e s m args below meth c s₁ B hml hv
  obtain ⟨rfl, hC, hW⟩ := hv
  have hx := B.exec
  have hb := B.bytes
  have hr := B.returns
  have hts := atoms_spec (ws := wsX8_wordAt) B.pre
  have hown : s.vm.findClass RX8 = some m.cls := findClass_of_methodNamed B.named
  have hlocks := B.notSynchronized
  have hB := hF.1
  have hn := hF.n
  have hS : va_S A s.heap s.heap [] := va_S.rf
  have hl := lv_entry ([.ref (bd 0 0), .int (nI p0), .int (y)]) (n := 3) (Nat.le_of_ble_eq_true rfl)
  rw [lg_entry_eq]
  generalize (lg_sl ([.ref (bd 0 0), .int (nI p0), .int (y)]) ++ List.replicate (3 - (lg_sl ([.ref (bd 0 0), .int (nI p0), .int (y)])).length) Slot.unset).toArray = ls at hl ⊢
  have hl : lv_has ls 3 [(0, .ref (bd 0 0)), (1, .int (nI p0)), (2, .int (y))] := hl
  have iRX8 : ∀ w ∈ wsX80, w ∈ wsX8_wordAt := by decide +kernel
  refine lv_aload_n hx hb dX8_wordAt_0 rfl (lv_at hl 0 rfl) ?_
  refine lv_iconst (v := nI 0) hx hb dX8_wordAt_1 (by decide) ?_
  refine q_put (C := RX8) (T := TX8) (N := 36) (ty := .int) (v := .int (nI 0)) hx hb hts iRX8 tyX8 tyX8_ok nmX8 hown hC.1 (hW.to rLV0) (hW.in rLV0) hS rfl 0 (by decide) (hts (.fieldLink RX8 100 "LogWeaveModel" "thrown" "I") (List.mem_of_getElem? (i := 1) (by decide +kernel))) rfl rfl (by decide +kernel) rfl rfl (Nat.le_of_ble_eq_true rfl) dX8_wordAt_2 (fun H1 locs hat hsz hoq hS => ?_)
  have hW := hW.upR 2 0 0 rfl rLV0 ((rLV0 (ρ := (qup ρ 2 0 0))).trans (by rw [qup_s]; rfl)) hat hoq
  have hW : rW G A (rT ρ) bd _ := hW
  refine lv_aload_n hx hb dX8_wordAt_5 rfl (lv_at hl 0 rfl) ?_
  refine lv_aload_n hx hb dX8_wordAt_6 rfl (lv_at hl 0 rfl) ?_
  refine lv_iload_n hx hb dX8_wordAt_7 rfl (lv_at hl 1 rfl) ?_
  refine q_v (va_runV (As := [.int (nI p0)]) (rest := [.ref (bd 0 0)]) ⟨hx, hb, hml, hown, hts⟩ (m_rnoPattern1 l G A (rT ρ) bd hF p0 hp hm) (cwV 1 hts gX8_wordAt_X8_noPattern rfl rfl rfl (by decide +kernel) ⟨Nat.le_of_ble_eq_true rfl, Nat.le_of_ble_eq_true rfl⟩) ⟨rR.blind, qrecv hC (hW.to rLV0) rfl, rR.pre hC hW⟩ rfl rfl hl.1 rfl (lv_room (Nat.le_of_ble_eq_true rfl)) dX8_wordAt_8 ⟨Nat.le_of_ble_eq_true rfl, Nat.le_of_ble_eq_true rfl⟩) hS (fun _ h => h.elim) (fun locs hS => ?_)
  refine lv_iconst (v := nI 1) hx hb dX8_wordAt_11 (by decide) ?_
  refine q_wv (va_runV (As := [.int (nI 1), .int (nI 1)]) (rest := []) ⟨hx, hb, hml, hown, hts⟩ (m_rfails1 l G A (rT ρ) bd hF 1 (by decide) (by decide) (rT_0 ρ)) (cwV 2 hts gX8_wordAt_X8_fails rfl rfl rfl (by decide +kernel) ⟨Nat.le_of_ble_eq_true rfl, Nat.le_of_ble_eq_true rfl⟩) ⟨rR.blind, qrecv hC (hW.to rLV0) rfl, rR.pre hC hW⟩ rfl rfl hl.1 rfl (lv_room (Nat.le_of_ble_eq_true rfl)) dX8_wordAt_12 ⟨Nat.le_of_ble_eq_true rfl, Nat.le_of_ble_eq_true rfl⟩) hS (fun _ h => h) (fun _ h => h) (fun H1 locs hW hz hk hS => ?_)
  refine q_ne0 (tgt := 40) hx hb (by decide) dX8_wordAt_15 (by decide) (fun g1 => ?_) (fun g1 => (by omega))
  refine lv_iconst (v := nI 0) hx hb dX8_wordAt_40 (by decide) ?_
  refine lv_goto (tgt := 54) hx hb dX8_wordAt_41 (by decide) ?_
  exact W.iret hx hb hr (fun t ht _ => ⟨rfl, by rw [ht]; exact hW, hS.F ht⟩) hS.2.2 dX8_wordAt_54
set_option maxHeartbeats 4000000 in
set_option maxRecDepth 100000 in
theorem x_rwordAt2 (l : Launch) (G : QG) (A : Nat → Prop) (ρ bd : QSt) (hF : rWF (rT ρ)) (p0 : Nat) (hp : p0 < (rT ρ) 0 1) (hm : (rT ρ) 97 p0 = 0) (y : Int32) (hbad : ¬ (nI 0 ≤ y ∧ y ≤ nI 2)) : Met l yX8_wordAt wsX8_wordAt ({ frames := 2, cells := 0, slots := 0, locals := 43 } : Room) (rR G A ρ bd [.ref (bd 0 0), .int (nI p0), .int (y)]) (qWV (some (.int (nI 0))) (rW G A (qup (rT ρ) 2 0 2) bd) A) 0 0 A := by
  refine Met.ofW (cc := cX8_wordAt) (maxL := 3) (ret := (some .int)) (by decide) rfl ?_
  intro p e s m args below meth c s₁ B hml hv
  obtain ⟨rfl, hC, hW⟩ := hv
  have hx := B.exec
  have hb := B.bytes
  have hr := B.returns
  have hts := atoms_spec (ws := wsX8_wordAt) B.pre
  have hown : s.vm.findClass RX8 = some m.cls := findClass_of_methodNamed B.named
  have hlocks := B.notSynchronized
  have hB := hF.1
  have hn := hF.n
  have hS : va_S A s.heap s.heap [] := va_S.rf
  have hl := lv_entry ([.ref (bd 0 0), .int (nI p0), .int (y)]) (n := 3) (Nat.le_of_ble_eq_true rfl)
  rw [lg_entry_eq]
  generalize (lg_sl ([.ref (bd 0 0), .int (nI p0), .int (y)]) ++ List.replicate (3 - (lg_sl ([.ref (bd 0 0), .int (nI p0), .int (y)])).length) Slot.unset).toArray = ls at hl ⊢
  have hl : lv_has ls 3 [(0, .ref (bd 0 0)), (1, .int (nI p0)), (2, .int (y))] := hl
  have iRX8 : ∀ w ∈ wsX80, w ∈ wsX8_wordAt := by decide +kernel
  refine lv_aload_n hx hb dX8_wordAt_0 rfl (lv_at hl 0 rfl) ?_
  refine lv_iconst (v := nI 0) hx hb dX8_wordAt_1 (by decide) ?_
  refine q_put (C := RX8) (T := TX8) (N := 36) (ty := .int) (v := .int (nI 0)) hx hb hts iRX8 tyX8 tyX8_ok nmX8 hown hC.1 (hW.to rLV0) (hW.in rLV0) hS rfl 0 (by decide) (hts (.fieldLink RX8 100 "LogWeaveModel" "thrown" "I") (List.mem_of_getElem? (i := 1) (by decide +kernel))) rfl rfl (by decide +kernel) rfl rfl (Nat.le_of_ble_eq_true rfl) dX8_wordAt_2 (fun H1 locs hat hsz hoq hS => ?_)
  have hW := hW.upR 2 0 0 rfl rLV0 ((rLV0 (ρ := (qup ρ 2 0 0))).trans (by rw [qup_s]; rfl)) hat hoq
  have hW : rW G A (rT ρ) bd _ := hW
  refine lv_aload_n hx hb dX8_wordAt_5 rfl (lv_at hl 0 rfl) ?_
  refine lv_aload_n hx hb dX8_wordAt_6 rfl (lv_at hl 0 rfl) ?_
  refine lv_iload_n hx hb dX8_wordAt_7 rfl (lv_at hl 1 rfl) ?_
  refine q_v (va_runV (As := [.int (nI p0)]) (rest := [.ref (bd 0 0)]) ⟨hx, hb, hml, hown, hts⟩ (m_rnoPattern0 l G A (rT ρ) bd hF p0 hp hm) (cwV 1 hts gX8_wordAt_X8_noPattern rfl rfl rfl (by decide +kernel) ⟨Nat.le_of_ble_eq_true rfl, Nat.le_of_ble_eq_true rfl⟩) ⟨rR.blind, qrecv hC (hW.to rLV0) rfl, rR.pre hC hW⟩ rfl rfl hl.1 rfl (lv_room (Nat.le_of_ble_eq_true rfl)) dX8_wordAt_8 ⟨Nat.le_of_ble_eq_true rfl, Nat.le_of_ble_eq_true rfl⟩) hS (fun _ h => h.elim) (fun locs hS => ?_)
  refine lv_iconst (v := nI 1) hx hb dX8_wordAt_11 (by decide) ?_
  refine q_v (va_runV (As := [.int (nI 0), .int (nI 1)]) (rest := []) ⟨hx, hb, hml, hown, hts⟩ (m_rfails0 l G A (rT ρ) bd hF 1 (rT_0 ρ)) (cwV 2 hts gX8_wordAt_X8_fails rfl rfl rfl (by decide +kernel) ⟨Nat.le_of_ble_eq_true rfl, Nat.le_of_ble_eq_true rfl⟩) ⟨rR.blind, qrecv hC (hW.to rLV0) rfl, rR.pre hC hW⟩ rfl rfl hl.1 rfl (lv_room (Nat.le_of_ble_eq_true rfl)) dX8_wordAt_12 ⟨Nat.le_of_ble_eq_true rfl, Nat.le_of_ble_eq_true rfl⟩) hS (fun _ h => h.elim) (fun locs hS => ?_)
  refine q_ne0 (tgt := 40) hx hb (by decide) dX8_wordAt_15 (by decide) (fun g1 => (by omega)) (fun g1 => ?_)
  refine lv_aload_n hx hb dX8_wordAt_18 rfl (lv_at hl 0 rfl) ?_
  refine lv_iload_n hx hb dX8_wordAt_19 rfl (lv_at hl 2 rfl) ?_
  refine lv_iconst (v := nI 0) hx hb dX8_wordAt_20 (by decide) ?_
  refine lv_iconst (v := nI 2) hx hb dX8_wordAt_21 (by decide) ?_
  refine q_v (va_runS (As := [.int (y), .int (nI 0), .int (nI 2)]) (rest := [.ref (bd 0 0)]) ⟨hx, hb, hml, hown, hts⟩ (m_rin l y (nI 0) (nI 2)) (va_cwS 3 hts gX8_wordAt_X8_in rfl rfl rfl (by decide +kernel) ⟨Nat.le_of_ble_eq_true rfl, Nat.le_of_ble_eq_true rfl⟩) ⟨qU.blind, qU.pre⟩ rfl rfl hl.1 rfl (lv_room (Nat.le_of_ble_eq_true rfl)) dX8_wordAt_22 ⟨Nat.le_of_ble_eq_true rfl, Nat.le_of_ble_eq_true rfl⟩) hS (fun _ h => h.elim) (fun locs hS => ?_)
  refine q_ne0 (tgt := 32) hx hb q_31B dX8_wordAt_25 (by decide) (fun g2 => ?_) (fun g2 => ?_)
  · skip
    refine lv_iconst (v := nI 0) hx hb dX8_wordAt_32 (by decide) ?_
    refine lv_iconst (v := nI 2) hx hb dX8_wordAt_33 (by decide) ?_
    exact absurd (r_un g2) hbad
  · skip
    refine lv_iconst (v := nI 1) hx hb dX8_wordAt_28 (by decide) ?_
    refine lv_goto (tgt := 33) hx hb dX8_wordAt_29 (by decide) ?_
    refine lv_iconst (v := nI 2) hx hb dX8_wordAt_33 (by decide) ?_
    refine q_wv (va_runV (As := [.int (nI 1), .int (nI 2)]) (rest := []) ⟨hx, hb, hml, hown, hts⟩ (m_rfails1 l G A (rT ρ) bd hF 2 (by decide) (by decide) (rT_0 ρ)) (cwV 2 hts gX8_wordAt_X8_fails rfl rfl rfl (by decide +kernel) ⟨Nat.le_of_ble_eq_true rfl, Nat.le_of_ble_eq_true rfl⟩) ⟨rR.blind, qrecv hC (hW.to rLV0) rfl, rR.pre hC hW⟩ rfl rfl hl.1 rfl (lv_room (Nat.le_of_ble_eq_true rfl)) dX8_wordAt_34 ⟨Nat.le_of_ble_eq_true rfl, Nat.le_of_ble_eq_true rfl⟩) hS (fun _ h => h) (fun _ h => h) (fun H1 locs hW hz hk hS => ?_)
    refine q_eq0 (tgt := 44) hx hb (by decide) dX8_wordAt_37 (by decide) (fun g3 => (by omega)) (fun g3 => ?_)
    refine lv_iconst (v := nI 0) hx hb dX8_wordAt_40 (by decide) ?_
    refine lv_goto (tgt := 54) hx hb dX8_wordAt_41 (by decide) ?_
    exact W.iret hx hb hr (fun t ht _ => ⟨rfl, by rw [ht]; exact hW, hS.F ht⟩) hS.2.2 dX8_wordAt_54
set_option maxHeartbeats 4000000 in
set_option maxRecDepth 100000 in
theorem x_rvalues1 (l : Launch) (G : QG) (A : Nat → Prop) (ρ bd : QSt) (hF : rWF (rT ρ)) (x : Int32) (hx0 : ¬ rIn x ((rT ρ) 0 1)) (y : Int32) : Met l yX8_values wsX8_values ({ frames := 2, cells := 0, slots := 0, locals := 43 } : Room) (rR G A ρ bd [.ref (bd 0 0), .int (x), .int (y)]) (qWV (some (.int (nI 0))) (rW G A (qup (rT ρ) 2 0 1) bd) A) 0 0 A := by
  refine Met.ofW (cc := cX8_values) (maxL := 7) (ret := (some .int)) (by decide) rfl ?_
  intro p e s m args below meth c s₁ B hml hv
  obtain ⟨rfl, hC, hW⟩ := hv
  have hx := B.exec
  have hb := B.bytes
  have hr := B.returns
  have hts := atoms_spec (ws := wsX8_values) B.pre
  have hown : s.vm.findClass RX8 = some m.cls := findClass_of_methodNamed B.named
  have hlocks := B.notSynchronized
  have hB := hF.1
  have hn := hF.n
  have hS : va_S A s.heap s.heap [] := va_S.rf
  have hl := lv_entry ([.ref (bd 0 0), .int (x), .int (y)]) (n := 7) (Nat.le_of_ble_eq_true rfl)
  rw [lg_entry_eq]
  generalize (lg_sl ([.ref (bd 0 0), .int (x), .int (y)]) ++ List.replicate (7 - (lg_sl ([.ref (bd 0 0), .int (x), .int (y)])).length) Slot.unset).toArray = ls at hl ⊢
  have hl : lv_has ls 7 [(0, .ref (bd 0 0)), (1, .int (x)), (2, .int (y))] := hl
  have iRX8 : ∀ w ∈ wsX80, w ∈ wsX8_values := by decide +kernel
  refine lv_aload_n hx hb dX8_values_0 rfl (lv_at hl 0 rfl) ?_
  refine lv_iconst (v := nI 0) hx hb dX8_values_1 (by decide) ?_
  refine q_put (C := RX8) (T := TX8) (N := 36) (ty := .int) (v := .int (nI 0)) hx hb hts iRX8 tyX8 tyX8_ok nmX8 hown hC.1 (hW.to rLV0) (hW.in rLV0) hS rfl 0 (by decide) (hts (.fieldLink RX8 100 "LogWeaveModel" "thrown" "I") (List.mem_of_getElem? (i := 1) (by decide +kernel))) rfl rfl (by decide +kernel) rfl rfl (Nat.le_of_ble_eq_true rfl) dX8_values_2 (fun H1 locs hat hsz hoq hS => ?_)
  have hW := hW.upR 2 0 0 rfl rLV0 ((rLV0 (ρ := (qup ρ 2 0 0))).trans (by rw [qup_s]; rfl)) hat hoq
  have hW : rW G A (rT ρ) bd _ := hW
  refine lv_aload_n hx hb dX8_values_5 rfl (lv_at hl 0 rfl) ?_
  refine lv_aload_n hx hb dX8_values_6 rfl (lv_at hl 0 rfl) ?_
  refine lv_iload_n hx hb dX8_values_7 rfl (lv_at hl 1 rfl) ?_
  refine q_v (va_runV (As := [.int (x)]) (rest := [.ref (bd 0 0)]) ⟨hx, hb, hml, hown, hts⟩ (m_rnoPattern2 l G A (rT ρ) bd hF x hx0) (cwV 1 hts gX8_values_X8_noPattern rfl rfl rfl (by decide +kernel) ⟨Nat.le_of_ble_eq_true rfl, Nat.le_of_ble_eq_true rfl⟩) ⟨rR.blind, qrecv hC (hW.to rLV0) rfl, rR.pre hC hW⟩ rfl rfl hl.1 rfl (lv_room (Nat.le_of_ble_eq_true rfl)) dX8_values_8 ⟨Nat.le_of_ble_eq_true rfl, Nat.le_of_ble_eq_true rfl⟩) hS (fun _ h => h.elim) (fun locs hS => ?_)
  refine lv_iconst (v := nI 1) hx hb dX8_values_11 (by decide) ?_
  refine q_wv (va_runV (As := [.int (nI 1), .int (nI 1)]) (rest := []) ⟨hx, hb, hml, hown, hts⟩ (m_rfails1 l G A (rT ρ) bd hF 1 (by decide) (by decide) (rT_0 ρ)) (cwV 2 hts gX8_values_X8_fails rfl rfl rfl (by decide +kernel) ⟨Nat.le_of_ble_eq_true rfl, Nat.le_of_ble_eq_true rfl⟩) ⟨rR.blind, qrecv hC (hW.to rLV0) rfl, rR.pre hC hW⟩ rfl rfl hl.1 rfl (lv_room (Nat.le_of_ble_eq_true rfl)) dX8_values_12 ⟨Nat.le_of_ble_eq_true rfl, Nat.le_of_ble_eq_true rfl⟩) hS (fun _ h => h) (fun _ h => h) (fun H1 locs hW hz hk hS => ?_)
  refine q_ne0 (tgt := 40) hx hb (by decide) dX8_values_15 (by decide) (fun g1 => ?_) (fun g1 => (by omega))
  refine lv_iconst (v := nI 0) hx hb dX8_values_40 (by decide) ?_
  exact W.iret hx hb hr (fun t ht _ => ⟨rfl, by rw [ht]; exact hW, hS.F ht⟩) hS.2.2 dX8_values_41
set_option maxHeartbeats 4000000 in
set_option maxRecDepth 100000 in
theorem x_rvalues1m (l : Launch) (G : QG) (A : Nat → Prop) (ρ bd : QSt) (hF : rWF (rT ρ)) (p0 : Nat) (hp : p0 < (rT ρ) 0 1) (hm : (rT ρ) 97 p0 ≠ 0) (y : Int32) : Met l yX8_values wsX8_values ({ frames := 2, cells := 0, slots := 0, locals := 43 } : Room) (rR G A ρ bd [.ref (bd 0 0), .int (nI p0), .int (y)]) (qWV (some (.int (nI 0))) (rW G A (qup (rT ρ) 2 0 1) bd) A) 0 0 A := by
  refine Met.ofW (cc := cX8_values) (maxL := 7) (ret := (some .int)) (by decide) rfl ?_
  intro p e s m args below meth c s₁ B hml hv
  obtain ⟨rfl, hC, hW⟩ := hv
  have hx := B.exec
  have hb := B.bytes
  have hr := B.returns
  have hts := atoms_spec (ws := wsX8_values) B.pre
  have hown : s.vm.findClass RX8 = some m.cls := findClass_of_methodNamed B.named
  have hlocks := B.notSynchronized
  have hB := hF.1
  have hn := hF.n
  have hS : va_S A s.heap s.heap [] := va_S.rf
  have hl := lv_entry ([.ref (bd 0 0), .int (nI p0), .int (y)]) (n := 7) (Nat.le_of_ble_eq_true rfl)
  rw [lg_entry_eq]
  generalize (lg_sl ([.ref (bd 0 0), .int (nI p0), .int (y)]) ++ List.replicate (7 - (lg_sl ([.ref (bd 0 0), .int (nI p0), .int (y)])).length) Slot.unset).toArray = ls at hl ⊢
  have hl : lv_has ls 7 [(0, .ref (bd 0 0)), (1, .int (nI p0)), (2, .int (y))] := hl
  have iRX8 : ∀ w ∈ wsX80, w ∈ wsX8_values := by decide +kernel
  refine lv_aload_n hx hb dX8_values_0 rfl (lv_at hl 0 rfl) ?_
  refine lv_iconst (v := nI 0) hx hb dX8_values_1 (by decide) ?_
  refine q_put (C := RX8) (T := TX8) (N := 36) (ty := .int) (v := .int (nI 0)) hx hb hts iRX8 tyX8 tyX8_ok nmX8 hown hC.1 (hW.to rLV0) (hW.in rLV0) hS rfl 0 (by decide) (hts (.fieldLink RX8 100 "LogWeaveModel" "thrown" "I") (List.mem_of_getElem? (i := 1) (by decide +kernel))) rfl rfl (by decide +kernel) rfl rfl (Nat.le_of_ble_eq_true rfl) dX8_values_2 (fun H1 locs hat hsz hoq hS => ?_)
  have hW := hW.upR 2 0 0 rfl rLV0 ((rLV0 (ρ := (qup ρ 2 0 0))).trans (by rw [qup_s]; rfl)) hat hoq
  have hW : rW G A (rT ρ) bd _ := hW
  refine lv_aload_n hx hb dX8_values_5 rfl (lv_at hl 0 rfl) ?_
  refine lv_aload_n hx hb dX8_values_6 rfl (lv_at hl 0 rfl) ?_
  refine lv_iload_n hx hb dX8_values_7 rfl (lv_at hl 1 rfl) ?_
  refine q_v (va_runV (As := [.int (nI p0)]) (rest := [.ref (bd 0 0)]) ⟨hx, hb, hml, hown, hts⟩ (m_rnoPattern1 l G A (rT ρ) bd hF p0 hp hm) (cwV 1 hts gX8_values_X8_noPattern rfl rfl rfl (by decide +kernel) ⟨Nat.le_of_ble_eq_true rfl, Nat.le_of_ble_eq_true rfl⟩) ⟨rR.blind, qrecv hC (hW.to rLV0) rfl, rR.pre hC hW⟩ rfl rfl hl.1 rfl (lv_room (Nat.le_of_ble_eq_true rfl)) dX8_values_8 ⟨Nat.le_of_ble_eq_true rfl, Nat.le_of_ble_eq_true rfl⟩) hS (fun _ h => h.elim) (fun locs hS => ?_)
  refine lv_iconst (v := nI 1) hx hb dX8_values_11 (by decide) ?_
  refine q_wv (va_runV (As := [.int (nI 1), .int (nI 1)]) (rest := []) ⟨hx, hb, hml, hown, hts⟩ (m_rfails1 l G A (rT ρ) bd hF 1 (by decide) (by decide) (rT_0 ρ)) (cwV 2 hts gX8_values_X8_fails rfl rfl rfl (by decide +kernel) ⟨Nat.le_of_ble_eq_true rfl, Nat.le_of_ble_eq_true rfl⟩) ⟨rR.blind, qrecv hC (hW.to rLV0) rfl, rR.pre hC hW⟩ rfl rfl hl.1 rfl (lv_room (Nat.le_of_ble_eq_true rfl)) dX8_values_12 ⟨Nat.le_of_ble_eq_true rfl, Nat.le_of_ble_eq_true rfl⟩) hS (fun _ h => h) (fun _ h => h) (fun H1 locs hW hz hk hS => ?_)
  refine q_ne0 (tgt := 40) hx hb (by decide) dX8_values_15 (by decide) (fun g1 => ?_) (fun g1 => (by omega))
  refine lv_iconst (v := nI 0) hx hb dX8_values_40 (by decide) ?_
  exact W.iret hx hb hr (fun t ht _ => ⟨rfl, by rw [ht]; exact hW, hS.F ht⟩) hS.2.2 dX8_values_41
set_option maxHeartbeats 4000000 in
set_option maxRecDepth 100000 in
theorem x_rvalues2 (l : Launch) (G : QG) (A : Nat → Prop) (ρ bd : QSt) (hF : rWF (rT ρ)) (p0 : Nat) (hp : p0 < (rT ρ) 0 1) (hm : (rT ρ) 97 p0 = 0) (y : Int32) (hbad : ¬ (nI 0 ≤ y ∧ y ≤ nI 2)) : Met l yX8_values wsX8_values ({ frames := 2, cells := 0, slots := 0, locals := 43 } : Room) (rR G A ρ bd [.ref (bd 0 0), .int (nI p0), .int (y)]) (qWV (some (.int (nI 0))) (rW G A (qup (rT ρ) 2 0 2) bd) A) 0 0 A := by
  refine Met.ofW (cc := cX8_values) (maxL := 7) (ret := (some .int)) (by decide) rfl ?_
  intro p e s m args below meth c s₁ B hml hv
  obtain ⟨rfl, hC, hW⟩ := hv
  have hx := B.exec
  have hb := B.bytes
  have hr := B.returns
  have hts := atoms_spec (ws := wsX8_values) B.pre
  have hown : s.vm.findClass RX8 = some m.cls := findClass_of_methodNamed B.named
  have hlocks := B.notSynchronized
  have hB := hF.1
  have hn := hF.n
  have hS : va_S A s.heap s.heap [] := va_S.rf
  have hl := lv_entry ([.ref (bd 0 0), .int (nI p0), .int (y)]) (n := 7) (Nat.le_of_ble_eq_true rfl)
  rw [lg_entry_eq]
  generalize (lg_sl ([.ref (bd 0 0), .int (nI p0), .int (y)]) ++ List.replicate (7 - (lg_sl ([.ref (bd 0 0), .int (nI p0), .int (y)])).length) Slot.unset).toArray = ls at hl ⊢
  have hl : lv_has ls 7 [(0, .ref (bd 0 0)), (1, .int (nI p0)), (2, .int (y))] := hl
  have iRX8 : ∀ w ∈ wsX80, w ∈ wsX8_values := by decide +kernel
  refine lv_aload_n hx hb dX8_values_0 rfl (lv_at hl 0 rfl) ?_
  refine lv_iconst (v := nI 0) hx hb dX8_values_1 (by decide) ?_
  refine q_put (C := RX8) (T := TX8) (N := 36) (ty := .int) (v := .int (nI 0)) hx hb hts iRX8 tyX8 tyX8_ok nmX8 hown hC.1 (hW.to rLV0) (hW.in rLV0) hS rfl 0 (by decide) (hts (.fieldLink RX8 100 "LogWeaveModel" "thrown" "I") (List.mem_of_getElem? (i := 1) (by decide +kernel))) rfl rfl (by decide +kernel) rfl rfl (Nat.le_of_ble_eq_true rfl) dX8_values_2 (fun H1 locs hat hsz hoq hS => ?_)
  have hW := hW.upR 2 0 0 rfl rLV0 ((rLV0 (ρ := (qup ρ 2 0 0))).trans (by rw [qup_s]; rfl)) hat hoq
  have hW : rW G A (rT ρ) bd _ := hW
  refine lv_aload_n hx hb dX8_values_5 rfl (lv_at hl 0 rfl) ?_
  refine lv_aload_n hx hb dX8_values_6 rfl (lv_at hl 0 rfl) ?_
  refine lv_iload_n hx hb dX8_values_7 rfl (lv_at hl 1 rfl) ?_
  refine q_v (va_runV (As := [.int (nI p0)]) (rest := [.ref (bd 0 0)]) ⟨hx, hb, hml, hown, hts⟩ (m_rnoPattern0 l G A (rT ρ) bd hF p0 hp hm) (cwV 1 hts gX8_values_X8_noPattern rfl rfl rfl (by decide +kernel) ⟨Nat.le_of_ble_eq_true rfl, Nat.le_of_ble_eq_true rfl⟩) ⟨rR.blind, qrecv hC (hW.to rLV0) rfl, rR.pre hC hW⟩ rfl rfl hl.1 rfl (lv_room (Nat.le_of_ble_eq_true rfl)) dX8_values_8 ⟨Nat.le_of_ble_eq_true rfl, Nat.le_of_ble_eq_true rfl⟩) hS (fun _ h => h.elim) (fun locs hS => ?_)
  refine lv_iconst (v := nI 1) hx hb dX8_values_11 (by decide) ?_
  refine q_v (va_runV (As := [.int (nI 0), .int (nI 1)]) (rest := []) ⟨hx, hb, hml, hown, hts⟩ (m_rfails0 l G A (rT ρ) bd hF 1 (rT_0 ρ)) (cwV 2 hts gX8_values_X8_fails rfl rfl rfl (by decide +kernel) ⟨Nat.le_of_ble_eq_true rfl, Nat.le_of_ble_eq_true rfl⟩) ⟨rR.blind, qrecv hC (hW.to rLV0) rfl, rR.pre hC hW⟩ rfl rfl hl.1 rfl (lv_room (Nat.le_of_ble_eq_true rfl)) dX8_values_12 ⟨Nat.le_of_ble_eq_true rfl, Nat.le_of_ble_eq_true rfl⟩) hS (fun _ h => h.elim) (fun locs hS => ?_)
  refine q_ne0 (tgt := 40) hx hb (by decide) dX8_values_15 (by decide) (fun g1 => (by omega)) (fun g1 => ?_)
  refine lv_aload_n hx hb dX8_values_18 rfl (lv_at hl 0 rfl) ?_
  refine lv_iload_n hx hb dX8_values_19 rfl (lv_at hl 2 rfl) ?_
  refine lv_iconst (v := nI 0) hx hb dX8_values_20 (by decide) ?_
  refine lv_iconst (v := nI 2) hx hb dX8_values_21 (by decide) ?_
  refine q_v (va_runS (As := [.int (y), .int (nI 0), .int (nI 2)]) (rest := [.ref (bd 0 0)]) ⟨hx, hb, hml, hown, hts⟩ (m_rin l y (nI 0) (nI 2)) (va_cwS 3 hts gX8_values_X8_in rfl rfl rfl (by decide +kernel) ⟨Nat.le_of_ble_eq_true rfl, Nat.le_of_ble_eq_true rfl⟩) ⟨qU.blind, qU.pre⟩ rfl rfl hl.1 rfl (lv_room (Nat.le_of_ble_eq_true rfl)) dX8_values_22 ⟨Nat.le_of_ble_eq_true rfl, Nat.le_of_ble_eq_true rfl⟩) hS (fun _ h => h.elim) (fun locs hS => ?_)
  refine q_ne0 (tgt := 32) hx hb q_31B dX8_values_25 (by decide) (fun g2 => ?_) (fun g2 => ?_)
  · skip
    refine lv_iconst (v := nI 0) hx hb dX8_values_32 (by decide) ?_
    refine lv_iconst (v := nI 2) hx hb dX8_values_33 (by decide) ?_
    exact absurd (r_un g2) hbad
  · skip
    refine lv_iconst (v := nI 1) hx hb dX8_values_28 (by decide) ?_
    refine lv_goto (tgt := 33) hx hb dX8_values_29 (by decide) ?_
    refine lv_iconst (v := nI 2) hx hb dX8_values_33 (by decide) ?_
    refine q_wv (va_runV (As := [.int (nI 1), .int (nI 2)]) (rest := []) ⟨hx, hb, hml, hown, hts⟩ (m_rfails1 l G A (rT ρ) bd hF 2 (by decide) (by decide) (rT_0 ρ)) (cwV 2 hts gX8_values_X8_fails rfl rfl rfl (by decide +kernel) ⟨Nat.le_of_ble_eq_true rfl, Nat.le_of_ble_eq_true rfl⟩) ⟨rR.blind, qrecv hC (hW.to rLV0) rfl, rR.pre hC hW⟩ rfl rfl hl.1 rfl (lv_room (Nat.le_of_ble_eq_true rfl)) dX8_values_34 ⟨Nat.le_of_ble_eq_true rfl, Nat.le_of_ble_eq_true rfl⟩) hS (fun _ h => h) (fun _ h => h) (fun H1 locs hW hz hk hS => ?_)
    refine q_eq0 (tgt := 42) hx hb (by decide) dX8_values_37 (by decide) (fun g3 => (by omega)) (fun g3 => ?_)
    refine lv_iconst (v := nI 0) hx hb dX8_values_40 (by decide) ?_
    exact W.iret hx hb hr (fun t ht _ => ⟨rfl, by rw [ht]; exact hW, hS.F ht⟩) hS.2.2 dX8_values_41
set_option maxHeartbeats 4000000 in
set_option maxRecDepth 100000 in
theorem x_rlinesOf1m (l : Launch) (G : QG) (A : Nat → Prop) (ρ bd : QSt) (hF : rWF (rT ρ)) (p0 : Nat) (hp : p0 < (rT ρ) 0 1) (hm : (rT ρ) 97 p0 ≠ 0) : Met l yX8_linesOf wsX8_linesOf ({ frames := 2, cells := 0, slots := 0, locals := 43 } : Room) (rR G A ρ bd [.ref (bd 0 0), .int (nI p0)]) (qWV (some (.int (nI 0))) (rW G A (qup (rT ρ) 2 0 1) bd) A) 0 0 A := by
  refine Met.ofW (cc := cX8_linesOf) (maxL := 4) (ret := (some .int)) (by decide) rfl ?_
  intro p e s m args below meth c s₁ B hml hv
  obtain ⟨rfl, hC, hW⟩ := hv
  have hx := B.exec
  have hb := B.bytes
  have hr := B.returns
  have hts := atoms_spec (ws := wsX8_linesOf) B.pre
  have hown : s.vm.findClass RX8 = some m.cls := findClass_of_methodNamed B.named
  have hlocks := B.notSynchronized
  have hB := hF.1
  have hn := hF.n
  have hS : va_S A s.heap s.heap [] := va_S.rf
  have hl := lv_entry ([.ref (bd 0 0), .int (nI p0)]) (n := 4) (Nat.le_of_ble_eq_true rfl)
  rw [lg_entry_eq]
  generalize (lg_sl ([.ref (bd 0 0), .int (nI p0)]) ++ List.replicate (4 - (lg_sl ([.ref (bd 0 0), .int (nI p0)])).length) Slot.unset).toArray = ls at hl ⊢
  have hl : lv_has ls 4 [(0, .ref (bd 0 0)), (1, .int (nI p0))] := hl
  have iRX8 : ∀ w ∈ wsX80, w ∈ wsX8_linesOf := by decide +kernel
  refine lv_aload_n hx hb dX8_linesOf_0 rfl (lv_at hl 0 rfl) ?_
  refine lv_iconst (v := nI 0) hx hb dX8_linesOf_1 (by decide) ?_
  refine q_put (C := RX8) (T := TX8) (N := 36) (ty := .int) (v := .int (nI 0)) hx hb hts iRX8 tyX8 tyX8_ok nmX8 hown hC.1 (hW.to rLV0) (hW.in rLV0) hS rfl 0 (by decide) (hts (.fieldLink RX8 100 "LogWeaveModel" "thrown" "I") (List.mem_of_getElem? (i := 1) (by decide +kernel))) rfl rfl (by decide +kernel) rfl rfl (Nat.le_of_ble_eq_true rfl) dX8_linesOf_2 (fun H1 locs hat hsz hoq hS => ?_)
  have hW := hW.upR 2 0 0 rfl rLV0 ((rLV0 (ρ := (qup ρ 2 0 0))).trans (by rw [qup_s]; rfl)) hat hoq
  have hW : rW G A (rT ρ) bd _ := hW
  refine lv_aload_n hx hb dX8_linesOf_5 rfl (lv_at hl 0 rfl) ?_
  refine lv_aload_n hx hb dX8_linesOf_6 rfl (lv_at hl 0 rfl) ?_
  refine lv_iload_n hx hb dX8_linesOf_7 rfl (lv_at hl 1 rfl) ?_
  refine q_v (va_runV (As := [.int (nI p0)]) (rest := [.ref (bd 0 0)]) ⟨hx, hb, hml, hown, hts⟩ (m_rnoPattern1 l G A (rT ρ) bd hF p0 hp hm) (cwV 1 hts gX8_linesOf_X8_noPattern rfl rfl rfl (by decide +kernel) ⟨Nat.le_of_ble_eq_true rfl, Nat.le_of_ble_eq_true rfl⟩) ⟨rR.blind, qrecv hC (hW.to rLV0) rfl, rR.pre hC hW⟩ rfl rfl hl.1 rfl (lv_room (Nat.le_of_ble_eq_true rfl)) dX8_linesOf_8 ⟨Nat.le_of_ble_eq_true rfl, Nat.le_of_ble_eq_true rfl⟩) hS (fun _ h => h.elim) (fun locs hS => ?_)
  refine lv_iconst (v := nI 1) hx hb dX8_linesOf_11 (by decide) ?_
  refine q_wv (va_runV (As := [.int (nI 1), .int (nI 1)]) (rest := []) ⟨hx, hb, hml, hown, hts⟩ (m_rfails1 l G A (rT ρ) bd hF 1 (by decide) (by decide) (rT_0 ρ)) (cwV 2 hts gX8_linesOf_X8_fails rfl rfl rfl (by decide +kernel) ⟨Nat.le_of_ble_eq_true rfl, Nat.le_of_ble_eq_true rfl⟩) ⟨rR.blind, qrecv hC (hW.to rLV0) rfl, rR.pre hC hW⟩ rfl rfl hl.1 rfl (lv_room (Nat.le_of_ble_eq_true rfl)) dX8_linesOf_12 ⟨Nat.le_of_ble_eq_true rfl, Nat.le_of_ble_eq_true rfl⟩) hS (fun _ h => h) (fun _ h => h) (fun H1 locs hW hz hk hS => ?_)
  refine q_eq0 (tgt := 20) hx hb (by decide) dX8_linesOf_15 (by decide) (fun g1 => (by omega)) (fun g1 => ?_)
  refine lv_iconst (v := nI 0) hx hb dX8_linesOf_18 (by decide) ?_
  exact W.iret hx hb hr (fun t ht _ => ⟨rfl, by rw [ht]; exact hW, hS.F ht⟩) hS.2.2 dX8_linesOf_19
set_option maxHeartbeats 4000000 in
set_option maxRecDepth 100000 in
theorem x_rstandsOn1 (l : Launch) (G : QG) (A : Nat → Prop) (ρ bd : QSt) (hF : rWF (rT ρ)) (x : Int32) (hx0 : ¬ rIn x ((rT ρ) 0 3)) (y : Int32) : Met l yX8_standsOn wsX8_standsOn ({ frames := 2, cells := 0, slots := 0, locals := 43 } : Room) (rR G A ρ bd [.ref (bd 0 0), .int (x), .int (y)]) (qWV (some (.int (nI 0))) (rW G A (qup (rT ρ) 2 0 1) bd) A) 0 0 A := by
  refine Met.ofW (cc := cX8_standsOn) (maxL := 3) (ret := (some .boolean)) (by decide) rfl ?_
  intro p e s m args below meth c s₁ B hml hv
  obtain ⟨rfl, hC, hW⟩ := hv
  have hx := B.exec
  have hb := B.bytes
  have hr := B.returns
  have hts := atoms_spec (ws := wsX8_standsOn) B.pre
  have hown : s.vm.findClass RX8 = some m.cls := findClass_of_methodNamed B.named
  have hlocks := B.notSynchronized
  have hB := hF.1
  have hn := hF.n
  have hS : va_S A s.heap s.heap [] := va_S.rf
  have hl := lv_entry ([.ref (bd 0 0), .int (x), .int (y)]) (n := 3) (Nat.le_of_ble_eq_true rfl)
  rw [lg_entry_eq]
  generalize (lg_sl ([.ref (bd 0 0), .int (x), .int (y)]) ++ List.replicate (3 - (lg_sl ([.ref (bd 0 0), .int (x), .int (y)])).length) Slot.unset).toArray = ls at hl ⊢
  have hl : lv_has ls 3 [(0, .ref (bd 0 0)), (1, .int (x)), (2, .int (y))] := hl
  have iRX8 : ∀ w ∈ wsX80, w ∈ wsX8_standsOn := by decide +kernel
  refine lv_aload_n hx hb dX8_standsOn_0 rfl (lv_at hl 0 rfl) ?_
  refine lv_iconst (v := nI 0) hx hb dX8_standsOn_1 (by decide) ?_
  refine q_put (C := RX8) (T := TX8) (N := 36) (ty := .int) (v := .int (nI 0)) hx hb hts iRX8 tyX8 tyX8_ok nmX8 hown hC.1 (hW.to rLV0) (hW.in rLV0) hS rfl 0 (by decide) (hts (.fieldLink RX8 100 "LogWeaveModel" "thrown" "I") (List.mem_of_getElem? (i := 1) (by decide +kernel))) rfl rfl (by decide +kernel) rfl rfl (Nat.le_of_ble_eq_true rfl) dX8_standsOn_2 (fun H1 locs hat hsz hoq hS => ?_)
  have hW := hW.upR 2 0 0 rfl rLV0 ((rLV0 (ρ := (qup ρ 2 0 0))).trans (by rw [qup_s]; rfl)) hat hoq
  have hW : rW G A (rT ρ) bd _ := hW
  refine lv_aload_n hx hb dX8_standsOn_5 rfl (lv_at hl 0 rfl) ?_
  refine lv_aload_n hx hb dX8_standsOn_6 rfl (lv_at hl 0 rfl) ?_
  refine lv_iload_n hx hb dX8_standsOn_7 rfl (lv_at hl 1 rfl) ?_
  refine q_v (va_runV (As := [.int (x)]) (rest := [.ref (bd 0 0)]) ⟨hx, hb, hml, hown, hts⟩ (m_rnoFiring1 l G A (rT ρ) bd hF x hx0) (cwV 1 hts gX8_standsOn_X8_noFiring rfl rfl rfl (by decide +kernel) ⟨Nat.le_of_ble_eq_true rfl, Nat.le_of_ble_eq_true rfl⟩) ⟨rR.blind, qrecv hC (hW.to rLV0) rfl, rR.pre hC hW⟩ rfl rfl hl.1 rfl (lv_room (Nat.le_of_ble_eq_true rfl)) dX8_standsOn_8 ⟨Nat.le_of_ble_eq_true rfl, Nat.le_of_ble_eq_true rfl⟩) hS (fun _ h => h.elim) (fun locs hS => ?_)
  refine q_ne0 (tgt := 22) hx hb (by decide) dX8_standsOn_11 (by decide) (fun g1 => ?_) (fun g1 => (by omega))
  refine lv_iconst (v := nI 1) hx hb dX8_standsOn_22 (by decide) ?_
  refine lv_goto (tgt := 27) hx hb dX8_standsOn_23 (by decide) ?_
  refine lv_iconst (v := nI 1) hx hb dX8_standsOn_27 (by decide) ?_
  refine q_wv (va_runV (As := [.int (nI 1), .int (nI 1)]) (rest := []) ⟨hx, hb, hml, hown, hts⟩ (m_rfails1 l G A (rT ρ) bd hF 1 (by decide) (by decide) (rT_0 ρ)) (cwV 2 hts gX8_standsOn_X8_fails rfl rfl rfl (by decide +kernel) ⟨Nat.le_of_ble_eq_true rfl, Nat.le_of_ble_eq_true rfl⟩) ⟨rR.blind, qrecv hC (hW.to rLV0) rfl, rR.pre hC hW⟩ rfl rfl hl.1 rfl (lv_room (Nat.le_of_ble_eq_true rfl)) dX8_standsOn_28 ⟨Nat.le_of_ble_eq_true rfl, Nat.le_of_ble_eq_true rfl⟩) hS (fun _ h => h) (fun _ h => h) (fun H1 locs hW hz hk hS => ?_)
  refine q_ne0 (tgt := 47) hx hb (by decide) dX8_standsOn_31 (by decide) (fun g2 => ?_) (fun g2 => (by omega))
  refine lv_iconst (v := nI 0) hx hb dX8_standsOn_47 (by decide) ?_
  exact W.zret (v := nI 0) hx hb hr (rfl) (fun t ht _ => ⟨rfl, by rw [ht]; exact hW, hS.F ht⟩) hS.2.2 dX8_standsOn_48
set_option maxHeartbeats 4000000 in
set_option maxRecDepth 100000 in
theorem x_rstandsOn1l (l : Launch) (G : QG) (A : Nat → Prop) (ρ bd : QSt) (hF : rWF (rT ρ)) (f : Nat) (hf : f < (rT ρ) 0 3) (x : Int32) (hx0 : ¬ rIn x ((rT ρ) 0 0)) : Met l yX8_standsOn wsX8_standsOn ({ frames := 2, cells := 0, slots := 0, locals := 43 } : Room) (rR G A ρ bd [.ref (bd 0 0), .int (nI f), .int (x)]) (qWV (some (.int (nI 0))) (rW G A (qup (rT ρ) 2 0 1) bd) A) 0 0 A := by
  refine Met.ofW (cc := cX8_standsOn) (maxL := 3) (ret := (some .boolean)) (by decide) rfl ?_
  intro p e s m args below meth c s₁ B hml hv
  obtain ⟨rfl, hC, hW⟩ := hv
  have hx := B.exec
  have hb := B.bytes
  have hr := B.returns
  have hts := atoms_spec (ws := wsX8_standsOn) B.pre
  have hown : s.vm.findClass RX8 = some m.cls := findClass_of_methodNamed B.named
  have hlocks := B.notSynchronized
  have hB := hF.1
  have hn := hF.n
  have hS : va_S A s.heap s.heap [] := va_S.rf
  have hl := lv_entry ([.ref (bd 0 0), .int (nI f), .int (x)]) (n := 3) (Nat.le_of_ble_eq_true rfl)
  rw [lg_entry_eq]
  generalize (lg_sl ([.ref (bd 0 0), .int (nI f), .int (x)]) ++ List.replicate (3 - (lg_sl ([.ref (bd 0 0), .int (nI f), .int (x)])).length) Slot.unset).toArray = ls at hl ⊢
  have hl : lv_has ls 3 [(0, .ref (bd 0 0)), (1, .int (nI f)), (2, .int (x))] := hl
  have iRX8 : ∀ w ∈ wsX80, w ∈ wsX8_standsOn := by decide +kernel
  refine lv_aload_n hx hb dX8_standsOn_0 rfl (lv_at hl 0 rfl) ?_
  refine lv_iconst (v := nI 0) hx hb dX8_standsOn_1 (by decide) ?_
  refine q_put (C := RX8) (T := TX8) (N := 36) (ty := .int) (v := .int (nI 0)) hx hb hts iRX8 tyX8 tyX8_ok nmX8 hown hC.1 (hW.to rLV0) (hW.in rLV0) hS rfl 0 (by decide) (hts (.fieldLink RX8 100 "LogWeaveModel" "thrown" "I") (List.mem_of_getElem? (i := 1) (by decide +kernel))) rfl rfl (by decide +kernel) rfl rfl (Nat.le_of_ble_eq_true rfl) dX8_standsOn_2 (fun H1 locs hat hsz hoq hS => ?_)
  have hW := hW.upR 2 0 0 rfl rLV0 ((rLV0 (ρ := (qup ρ 2 0 0))).trans (by rw [qup_s]; rfl)) hat hoq
  have hW : rW G A (rT ρ) bd _ := hW
  refine lv_aload_n hx hb dX8_standsOn_5 rfl (lv_at hl 0 rfl) ?_
  refine lv_aload_n hx hb dX8_standsOn_6 rfl (lv_at hl 0 rfl) ?_
  refine lv_iload_n hx hb dX8_standsOn_7 rfl (lv_at hl 1 rfl) ?_
  refine q_v (va_runV (As := [.int (nI f)]) (rest := [.ref (bd 0 0)]) ⟨hx, hb, hml, hown, hts⟩ (m_rnoFiring0 l G A (rT ρ) bd hF f hf) (cwV 1 hts gX8_standsOn_X8_noFiring rfl rfl rfl (by decide +kernel) ⟨Nat.le_of_ble_eq_true rfl, Nat.le_of_ble_eq_true rfl⟩) ⟨rR.blind, qrecv hC (hW.to rLV0) rfl, rR.pre hC hW⟩ rfl rfl hl.1 rfl (lv_room (Nat.le_of_ble_eq_true rfl)) dX8_standsOn_8 ⟨Nat.le_of_ble_eq_true rfl, Nat.le_of_ble_eq_true rfl⟩) hS (fun _ h => h.elim) (fun locs hS => ?_)
  refine q_ne0 (tgt := 22) hx hb (by decide) dX8_standsOn_11 (by decide) (fun g1 => (by omega)) (fun g1 => ?_)
  refine lv_aload_n hx hb dX8_standsOn_14 rfl (lv_at hl 0 rfl) ?_
  refine lv_iload_n hx hb dX8_standsOn_15 rfl (lv_at hl 2 rfl) ?_
  refine q_v (va_runV (As := [.int (x)]) (rest := [.ref (bd 0 0)]) ⟨hx, hb, hml, hown, hts⟩ (m_rnoLine1 l G A (rT ρ) bd hF x hx0) (cwV 1 hts gX8_standsOn_X8_noLine rfl rfl rfl (by decide +kernel) ⟨Nat.le_of_ble_eq_true rfl, Nat.le_of_ble_eq_true rfl⟩) ⟨rR.blind, qrecv hC (hW.to rLV0) rfl, rR.pre hC hW⟩ rfl rfl hl.1 rfl (lv_room (Nat.le_of_ble_eq_true rfl)) dX8_standsOn_16 ⟨Nat.le_of_ble_eq_true rfl, Nat.le_of_ble_eq_true rfl⟩) hS (fun _ h => h.elim) (fun locs hS => ?_)
  refine q_eq0 (tgt := 26) hx hb (by decide) dX8_standsOn_19 (by decide) (fun g2 => (by omega)) (fun g2 => ?_)
  refine lv_iconst (v := nI 1) hx hb dX8_standsOn_22 (by decide) ?_
  refine lv_goto (tgt := 27) hx hb dX8_standsOn_23 (by decide) ?_
  refine lv_iconst (v := nI 1) hx hb dX8_standsOn_27 (by decide) ?_
  refine q_wv (va_runV (As := [.int (nI 1), .int (nI 1)]) (rest := []) ⟨hx, hb, hml, hown, hts⟩ (m_rfails1 l G A (rT ρ) bd hF 1 (by decide) (by decide) (rT_0 ρ)) (cwV 2 hts gX8_standsOn_X8_fails rfl rfl rfl (by decide +kernel) ⟨Nat.le_of_ble_eq_true rfl, Nat.le_of_ble_eq_true rfl⟩) ⟨rR.blind, qrecv hC (hW.to rLV0) rfl, rR.pre hC hW⟩ rfl rfl hl.1 rfl (lv_room (Nat.le_of_ble_eq_true rfl)) dX8_standsOn_28 ⟨Nat.le_of_ble_eq_true rfl, Nat.le_of_ble_eq_true rfl⟩) hS (fun _ h => h) (fun _ h => h) (fun H1 locs hW hz hk hS => ?_)
  refine q_ne0 (tgt := 47) hx hb (by decide) dX8_standsOn_31 (by decide) (fun g3 => ?_) (fun g3 => (by omega))
  refine lv_iconst (v := nI 0) hx hb dX8_standsOn_47 (by decide) ?_
  exact W.zret (v := nI 0) hx hb hr (rfl) (fun t ht _ => ⟨rfl, by rw [ht]; exact hW, hS.F ht⟩) hS.2.2 dX8_standsOn_48
set_option maxHeartbeats 4000000 in
set_option maxRecDepth 100000 in
theorem x_rpatterns1 (l : Launch) (G : QG) (A : Nat → Prop) (ρ bd : QSt) (hF : rWF (rT ρ)) (x : Int32) (hbad : ¬ (nI 0 ≤ x ∧ x ≤ nI 3)) : Met l yX8_patterns wsX8_patterns ({ frames := 2, cells := 0, slots := 0, locals := 42 } : Room) (rR G A ρ bd [.ref (bd 0 0), .int (x)]) (qWV (some (.int (nI 0))) (rW G A (qup (rT ρ) 2 0 1) bd) A) 0 0 A := by
  refine Met.ofW (cc := cX8_patterns) (maxL := 4) (ret := (some .int)) (by decide) rfl ?_
  intro p e s m args below meth c s₁ B hml hv
  obtain ⟨rfl, hC, hW⟩ := hv
  have hx := B.exec
  have hb := B.bytes
  have hr := B.returns
  have hts := atoms_spec (ws := wsX8_patterns) B.pre
  have hown : s.vm.findClass RX8 = some m.cls := findClass_of_methodNamed B.named
  have hlocks := B.notSynchronized
  have hB := hF.1
  have hn := hF.n
  have hS : va_S A s.heap s.heap [] := va_S.rf
  have hl := lv_entry ([.ref (bd 0 0), .int (x)]) (n := 4) (Nat.le_of_ble_eq_true rfl)
  rw [lg_entry_eq]
  generalize (lg_sl ([.ref (bd 0 0), .int (x)]) ++ List.replicate (4 - (lg_sl ([.ref (bd 0 0), .int (x)])).length) Slot.unset).toArray = ls at hl ⊢
  have hl : lv_has ls 4 [(0, .ref (bd 0 0)), (1, .int (x))] := hl
  have iRX8 : ∀ w ∈ wsX80, w ∈ wsX8_patterns := by decide +kernel
  refine lv_aload_n hx hb dX8_patterns_0 rfl (lv_at hl 0 rfl) ?_
  refine lv_iconst (v := nI 0) hx hb dX8_patterns_1 (by decide) ?_
  refine q_put (C := RX8) (T := TX8) (N := 36) (ty := .int) (v := .int (nI 0)) hx hb hts iRX8 tyX8 tyX8_ok nmX8 hown hC.1 (hW.to rLV0) (hW.in rLV0) hS rfl 0 (by decide) (hts (.fieldLink RX8 100 "LogWeaveModel" "thrown" "I") (List.mem_of_getElem? (i := 1) (by decide +kernel))) rfl rfl (by decide +kernel) rfl rfl (Nat.le_of_ble_eq_true rfl) dX8_patterns_2 (fun H1 locs hat hsz hoq hS => ?_)
  have hW := hW.upR 2 0 0 rfl rLV0 ((rLV0 (ρ := (qup ρ 2 0 0))).trans (by rw [qup_s]; rfl)) hat hoq
  have hW : rW G A (rT ρ) bd _ := hW
  refine lv_aload_n hx hb dX8_patterns_5 rfl (lv_at hl 0 rfl) ?_
  refine lv_iload_n hx hb dX8_patterns_6 rfl (lv_at hl 1 rfl) ?_
  refine q_v (va_runS (As := [.int (x)]) (rest := [.ref (bd 0 0)]) ⟨hx, hb, hml, hown, hts⟩ (m_risSource l x) (va_cwS 1 hts gX8_patterns_X8_isSource rfl rfl rfl (by decide +kernel) ⟨Nat.le_of_ble_eq_true rfl, Nat.le_of_ble_eq_true rfl⟩) ⟨qU.blind, qU.pre⟩ rfl rfl hl.1 rfl (lv_room (Nat.le_of_ble_eq_true rfl)) dX8_patterns_7 ⟨Nat.le_of_ble_eq_true rfl, Nat.le_of_ble_eq_true rfl⟩) hS (fun _ h => h.elim) (fun locs hS => ?_)
  refine q_ne0 (tgt := 17) hx hb q_31B dX8_patterns_10 (by decide) (fun g1 => ?_) (fun g1 => ?_)
  · skip
    refine lv_iconst (v := nI 0) hx hb dX8_patterns_17 (by decide) ?_
    refine lv_iconst (v := nI 1) hx hb dX8_patterns_18 (by decide) ?_
    exact absurd (r_un g1) hbad
  · skip
    refine lv_iconst (v := nI 1) hx hb dX8_patterns_13 (by decide) ?_
    refine lv_goto (tgt := 18) hx hb dX8_patterns_14 (by decide) ?_
    refine lv_iconst (v := nI 1) hx hb dX8_patterns_18 (by decide) ?_
    refine q_wv (va_runV (As := [.int (nI 1), .int (nI 1)]) (rest := []) ⟨hx, hb, hml, hown, hts⟩ (m_rfails1 l G A (rT ρ) bd hF 1 (by decide) (by decide) (rT_0 ρ)) (cwV 2 hts gX8_patterns_X8_fails rfl rfl rfl (by decide +kernel) ⟨Nat.le_of_ble_eq_true rfl, Nat.le_of_ble_eq_true rfl⟩) ⟨rR.blind, qrecv hC (hW.to rLV0) rfl, rR.pre hC hW⟩ rfl rfl hl.1 rfl (lv_room (Nat.le_of_ble_eq_true rfl)) dX8_patterns_19 ⟨Nat.le_of_ble_eq_true rfl, Nat.le_of_ble_eq_true rfl⟩) hS (fun _ h => h) (fun _ h => h) (fun H1 locs hW hz hk hS => ?_)
    refine q_eq0 (tgt := 27) hx hb (by decide) dX8_patterns_22 (by decide) (fun g2 => (by omega)) (fun g2 => ?_)
    refine lv_iconst (v := nI 0) hx hb dX8_patterns_25 (by decide) ?_
    exact W.iret hx hb hr (fun t ht _ => ⟨rfl, by rw [ht]; exact hW, hS.F ht⟩) hS.2.2 dX8_patterns_26
set_option maxHeartbeats 4000000 in
set_option maxRecDepth 100000 in
theorem x_rkept1 (l : Launch) (G : QG) (A : Nat → Prop) (ρ bd : QSt) (hF : rWF (rT ρ)) (x : Int32) (hbad : ¬ (nI 0 ≤ x ∧ x ≤ nI 3)) : Met l yX8_kept wsX8_kept ({ frames := 2, cells := 0, slots := 0, locals := 42 } : Room) (rR G A ρ bd [.ref (bd 0 0), .int (x)]) (qWV (some (.int (nI 0))) (rW G A (qup (rT ρ) 2 0 1) bd) A) 0 0 A := by
  refine Met.ofW (cc := cX8_kept) (maxL := 2) (ret := (some .int)) (by decide) rfl ?_
  intro p e s m args below meth c s₁ B hml hv
  obtain ⟨rfl, hC, hW⟩ := hv
  have hx := B.exec
  have hb := B.bytes
  have hr := B.returns
  have hts := atoms_spec (ws := wsX8_kept) B.pre
  have hown : s.vm.findClass RX8 = some m.cls := findClass_of_methodNamed B.named
  have hlocks := B.notSynchronized
  have hB := hF.1
  have hn := hF.n
  have hS : va_S A s.heap s.heap [] := va_S.rf
  have hl := lv_entry ([.ref (bd 0 0), .int (x)]) (n := 2) (Nat.le_of_ble_eq_true rfl)
  rw [lg_entry_eq]
  generalize (lg_sl ([.ref (bd 0 0), .int (x)]) ++ List.replicate (2 - (lg_sl ([.ref (bd 0 0), .int (x)])).length) Slot.unset).toArray = ls at hl ⊢
  have hl : lv_has ls 2 [(0, .ref (bd 0 0)), (1, .int (x))] := hl
  have iRX8 : ∀ w ∈ wsX80, w ∈ wsX8_kept := by decide +kernel
  refine lv_aload_n hx hb dX8_kept_0 rfl (lv_at hl 0 rfl) ?_
  refine lv_iconst (v := nI 0) hx hb dX8_kept_1 (by decide) ?_
  refine q_put (C := RX8) (T := TX8) (N := 36) (ty := .int) (v := .int (nI 0)) hx hb hts iRX8 tyX8 tyX8_ok nmX8 hown hC.1 (hW.to rLV0) (hW.in rLV0) hS rfl 0 (by decide) (hts (.fieldLink RX8 100 "LogWeaveModel" "thrown" "I") (List.mem_of_getElem? (i := 1) (by decide +kernel))) rfl rfl (by decide +kernel) rfl rfl (Nat.le_of_ble_eq_true rfl) dX8_kept_2 (fun H1 locs hat hsz hoq hS => ?_)
  have hW := hW.upR 2 0 0 rfl rLV0 ((rLV0 (ρ := (qup ρ 2 0 0))).trans (by rw [qup_s]; rfl)) hat hoq
  have hW : rW G A (rT ρ) bd _ := hW
  refine lv_aload_n hx hb dX8_kept_5 rfl (lv_at hl 0 rfl) ?_
  refine lv_iload_n hx hb dX8_kept_6 rfl (lv_at hl 1 rfl) ?_
  refine q_v (va_runS (As := [.int (x)]) (rest := [.ref (bd 0 0)]) ⟨hx, hb, hml, hown, hts⟩ (m_risSource l x) (va_cwS 1 hts gX8_kept_X8_isSource rfl rfl rfl (by decide +kernel) ⟨Nat.le_of_ble_eq_true rfl, Nat.le_of_ble_eq_true rfl⟩) ⟨qU.blind, qU.pre⟩ rfl rfl hl.1 rfl (lv_room (Nat.le_of_ble_eq_true rfl)) dX8_kept_7 ⟨Nat.le_of_ble_eq_true rfl, Nat.le_of_ble_eq_true rfl⟩) hS (fun _ h => h.elim) (fun locs hS => ?_)
  refine q_ne0 (tgt := 17) hx hb q_31B dX8_kept_10 (by decide) (fun g1 => ?_) (fun g1 => ?_)
  · skip
    refine lv_iconst (v := nI 0) hx hb dX8_kept_17 (by decide) ?_
    refine lv_iconst (v := nI 1) hx hb dX8_kept_18 (by decide) ?_
    exact absurd (r_un g1) hbad
  · skip
    refine lv_iconst (v := nI 1) hx hb dX8_kept_13 (by decide) ?_
    refine lv_goto (tgt := 18) hx hb dX8_kept_14 (by decide) ?_
    refine lv_iconst (v := nI 1) hx hb dX8_kept_18 (by decide) ?_
    refine q_wv (va_runV (As := [.int (nI 1), .int (nI 1)]) (rest := []) ⟨hx, hb, hml, hown, hts⟩ (m_rfails1 l G A (rT ρ) bd hF 1 (by decide) (by decide) (rT_0 ρ)) (cwV 2 hts gX8_kept_X8_fails rfl rfl rfl (by decide +kernel) ⟨Nat.le_of_ble_eq_true rfl, Nat.le_of_ble_eq_true rfl⟩) ⟨rR.blind, qrecv hC (hW.to rLV0) rfl, rR.pre hC hW⟩ rfl rfl hl.1 rfl (lv_room (Nat.le_of_ble_eq_true rfl)) dX8_kept_19 ⟨Nat.le_of_ble_eq_true rfl, Nat.le_of_ble_eq_true rfl⟩) hS (fun _ h => h) (fun _ h => h) (fun H1 locs hW hz hk hS => ?_)
    refine q_eq0 (tgt := 29) hx hb (by decide) dX8_kept_22 (by decide) (fun g2 => (by omega)) (fun g2 => ?_)
    refine lv_iconst (v := nI 0) hx hb dX8_kept_25 (by decide) ?_
    refine lv_goto (tgt := 34) hx hb dX8_kept_26 (by decide) ?_
    exact W.iret hx hb hr (fun t ht _ => ⟨rfl, by rw [ht]; exact hW, hS.F ht⟩) hS.2.2 dX8_kept_34
set_option maxHeartbeats 4000000 in
set_option maxRecDepth 100000 in
theorem x_rdropped1 (l : Launch) (G : QG) (A : Nat → Prop) (ρ bd : QSt) (hF : rWF (rT ρ)) (x : Int32) (hbad : ¬ (nI 0 ≤ x ∧ x ≤ nI 3)) : Met l yX8_dropped wsX8_dropped ({ frames := 2, cells := 0, slots := 0, locals := 42 } : Room) (rR G A ρ bd [.ref (bd 0 0), .int (x)]) (qWV (some (.int (nI 0))) (rW G A (qup (rT ρ) 2 0 1) bd) A) 0 0 A := by
  refine Met.ofW (cc := cX8_dropped) (maxL := 2) (ret := (some .int)) (by decide) rfl ?_
  intro p e s m args below meth c s₁ B hml hv
  obtain ⟨rfl, hC, hW⟩ := hv
  have hx := B.exec
  have hb := B.bytes
  have hr := B.returns
  have hts := atoms_spec (ws := wsX8_dropped) B.pre
  have hown : s.vm.findClass RX8 = some m.cls := findClass_of_methodNamed B.named
  have hlocks := B.notSynchronized
  have hB := hF.1
  have hn := hF.n
  have hS : va_S A s.heap s.heap [] := va_S.rf
  have hl := lv_entry ([.ref (bd 0 0), .int (x)]) (n := 2) (Nat.le_of_ble_eq_true rfl)
  rw [lg_entry_eq]
  generalize (lg_sl ([.ref (bd 0 0), .int (x)]) ++ List.replicate (2 - (lg_sl ([.ref (bd 0 0), .int (x)])).length) Slot.unset).toArray = ls at hl ⊢
  have hl : lv_has ls 2 [(0, .ref (bd 0 0)), (1, .int (x))] := hl
  have iRX8 : ∀ w ∈ wsX80, w ∈ wsX8_dropped := by decide +kernel
  refine lv_aload_n hx hb dX8_dropped_0 rfl (lv_at hl 0 rfl) ?_
  refine lv_iconst (v := nI 0) hx hb dX8_dropped_1 (by decide) ?_
  refine q_put (C := RX8) (T := TX8) (N := 36) (ty := .int) (v := .int (nI 0)) hx hb hts iRX8 tyX8 tyX8_ok nmX8 hown hC.1 (hW.to rLV0) (hW.in rLV0) hS rfl 0 (by decide) (hts (.fieldLink RX8 100 "LogWeaveModel" "thrown" "I") (List.mem_of_getElem? (i := 1) (by decide +kernel))) rfl rfl (by decide +kernel) rfl rfl (Nat.le_of_ble_eq_true rfl) dX8_dropped_2 (fun H1 locs hat hsz hoq hS => ?_)
  have hW := hW.upR 2 0 0 rfl rLV0 ((rLV0 (ρ := (qup ρ 2 0 0))).trans (by rw [qup_s]; rfl)) hat hoq
  have hW : rW G A (rT ρ) bd _ := hW
  refine lv_aload_n hx hb dX8_dropped_5 rfl (lv_at hl 0 rfl) ?_
  refine lv_iload_n hx hb dX8_dropped_6 rfl (lv_at hl 1 rfl) ?_
  refine q_v (va_runS (As := [.int (x)]) (rest := [.ref (bd 0 0)]) ⟨hx, hb, hml, hown, hts⟩ (m_risSource l x) (va_cwS 1 hts gX8_dropped_X8_isSource rfl rfl rfl (by decide +kernel) ⟨Nat.le_of_ble_eq_true rfl, Nat.le_of_ble_eq_true rfl⟩) ⟨qU.blind, qU.pre⟩ rfl rfl hl.1 rfl (lv_room (Nat.le_of_ble_eq_true rfl)) dX8_dropped_7 ⟨Nat.le_of_ble_eq_true rfl, Nat.le_of_ble_eq_true rfl⟩) hS (fun _ h => h.elim) (fun locs hS => ?_)
  refine q_ne0 (tgt := 17) hx hb q_31B dX8_dropped_10 (by decide) (fun g1 => ?_) (fun g1 => ?_)
  · skip
    refine lv_iconst (v := nI 0) hx hb dX8_dropped_17 (by decide) ?_
    refine lv_iconst (v := nI 1) hx hb dX8_dropped_18 (by decide) ?_
    exact absurd (r_un g1) hbad
  · skip
    refine lv_iconst (v := nI 1) hx hb dX8_dropped_13 (by decide) ?_
    refine lv_goto (tgt := 18) hx hb dX8_dropped_14 (by decide) ?_
    refine lv_iconst (v := nI 1) hx hb dX8_dropped_18 (by decide) ?_
    refine q_wv (va_runV (As := [.int (nI 1), .int (nI 1)]) (rest := []) ⟨hx, hb, hml, hown, hts⟩ (m_rfails1 l G A (rT ρ) bd hF 1 (by decide) (by decide) (rT_0 ρ)) (cwV 2 hts gX8_dropped_X8_fails rfl rfl rfl (by decide +kernel) ⟨Nat.le_of_ble_eq_true rfl, Nat.le_of_ble_eq_true rfl⟩) ⟨rR.blind, qrecv hC (hW.to rLV0) rfl, rR.pre hC hW⟩ rfl rfl hl.1 rfl (lv_room (Nat.le_of_ble_eq_true rfl)) dX8_dropped_19 ⟨Nat.le_of_ble_eq_true rfl, Nat.le_of_ble_eq_true rfl⟩) hS (fun _ h => h) (fun _ h => h) (fun H1 locs hW hz hk hS => ?_)
    refine q_eq0 (tgt := 29) hx hb (by decide) dX8_dropped_22 (by decide) (fun g2 => (by omega)) (fun g2 => ?_)
    refine lv_iconst (v := nI 0) hx hb dX8_dropped_25 (by decide) ?_
    refine lv_goto (tgt := 37) hx hb dX8_dropped_26 (by decide) ?_
    exact W.iret hx hb hr (fun t ht _ => ⟨rfl, by rw [ht]; exact hW, hS.F ht⟩) hS.2.2 dX8_dropped_37
set_option maxHeartbeats 4000000 in
set_option maxRecDepth 100000 in
theorem x_rsetBudget1 (l : Launch) (G : QG) (A : Nat → Prop) (ρ bd : QSt) (hF : rWF (rT ρ)) (x y : Int32) (hbad : ¬ ((nI 0 ≤ x ∧ x ≤ nI 3) ∧ (nI 0 ≤ y ∧ y ≤ nI 9999))) : Met l yX8_setBudget wsX8_setBudget ({ frames := 2, cells := 0, slots := 0, locals := 42 } : Room) (rR G A ρ bd [.ref (bd 0 0), .int (x), .int (y)]) (qWV (some (.int (nI 0))) (rW G A (qup (rT ρ) 2 0 1) bd) A) 0 0 A := by
  refine Met.ofW (cc := cX8_setBudget) (maxL := 3) (ret := (some .int)) (by decide) rfl ?_
  intro p e s m args below meth c s₁ B hml hv
  obtain ⟨rfl, hC, hW⟩ := hv
  have hx := B.exec
  have hb := B.bytes
  have hr := B.returns
  have hts := atoms_spec (ws := wsX8_setBudget) B.pre
  have hown : s.vm.findClass RX8 = some m.cls := findClass_of_methodNamed B.named
  have hlocks := B.notSynchronized
  have hB := hF.1
  have hn := hF.n
  have hS : va_S A s.heap s.heap [] := va_S.rf
  have hl := lv_entry ([.ref (bd 0 0), .int (x), .int (y)]) (n := 3) (Nat.le_of_ble_eq_true rfl)
  rw [lg_entry_eq]
  generalize (lg_sl ([.ref (bd 0 0), .int (x), .int (y)]) ++ List.replicate (3 - (lg_sl ([.ref (bd 0 0), .int (x), .int (y)])).length) Slot.unset).toArray = ls at hl ⊢
  have hl : lv_has ls 3 [(0, .ref (bd 0 0)), (1, .int (x)), (2, .int (y))] := hl
  have iRX8 : ∀ w ∈ wsX80, w ∈ wsX8_setBudget := by decide +kernel
  refine lv_aload_n hx hb dX8_setBudget_0 rfl (lv_at hl 0 rfl) ?_
  refine lv_iconst (v := nI 0) hx hb dX8_setBudget_1 (by decide) ?_
  refine q_put (C := RX8) (T := TX8) (N := 36) (ty := .int) (v := .int (nI 0)) hx hb hts iRX8 tyX8 tyX8_ok nmX8 hown hC.1 (hW.to rLV0) (hW.in rLV0) hS rfl 0 (by decide) (hts (.fieldLink RX8 100 "LogWeaveModel" "thrown" "I") (List.mem_of_getElem? (i := 1) (by decide +kernel))) rfl rfl (by decide +kernel) rfl rfl (Nat.le_of_ble_eq_true rfl) dX8_setBudget_2 (fun H1 locs hat hsz hoq hS => ?_)
  have hW := hW.upR 2 0 0 rfl rLV0 ((rLV0 (ρ := (qup ρ 2 0 0))).trans (by rw [qup_s]; rfl)) hat hoq
  have hW : rW G A (rT ρ) bd _ := hW
  refine lv_aload_n hx hb dX8_setBudget_5 rfl (lv_at hl 0 rfl) ?_
  refine lv_iload_n hx hb dX8_setBudget_6 rfl (lv_at hl 1 rfl) ?_
  refine q_v (va_runS (As := [.int (x)]) (rest := [.ref (bd 0 0)]) ⟨hx, hb, hml, hown, hts⟩ (m_risSource l x) (va_cwS 1 hts gX8_setBudget_X8_isSource rfl rfl rfl (by decide +kernel) ⟨Nat.le_of_ble_eq_true rfl, Nat.le_of_ble_eq_true rfl⟩) ⟨qU.blind, qU.pre⟩ rfl rfl hl.1 rfl (lv_room (Nat.le_of_ble_eq_true rfl)) dX8_setBudget_7 ⟨Nat.le_of_ble_eq_true rfl, Nat.le_of_ble_eq_true rfl⟩) hS (fun _ h => h.elim) (fun locs hS => ?_)
  refine q_eq0 (tgt := 24) hx hb q_31B dX8_setBudget_10 (by decide) (fun g1 => ?_) (fun g1 => ?_)
  · skip
    refine lv_iconst (v := nI 1) hx hb dX8_setBudget_24 (by decide) ?_
    refine lv_goto (tgt := 29) hx hb dX8_setBudget_25 (by decide) ?_
    refine lv_iconst (v := nI 1) hx hb dX8_setBudget_29 (by decide) ?_
    refine q_wv (va_runV (As := [.int (nI 1), .int (nI 1)]) (rest := []) ⟨hx, hb, hml, hown, hts⟩ (m_rfails1 l G A (rT ρ) bd hF 1 (by decide) (by decide) (rT_0 ρ)) (cwV 2 hts gX8_setBudget_X8_fails rfl rfl rfl (by decide +kernel) ⟨Nat.le_of_ble_eq_true rfl, Nat.le_of_ble_eq_true rfl⟩) ⟨rR.blind, qrecv hC (hW.to rLV0) rfl, rR.pre hC hW⟩ rfl rfl hl.1 rfl (lv_room (Nat.le_of_ble_eq_true rfl)) dX8_setBudget_30 ⟨Nat.le_of_ble_eq_true rfl, Nat.le_of_ble_eq_true rfl⟩) hS (fun _ h => h) (fun _ h => h) (fun H1 locs hW hz hk hS => ?_)
    refine q_eq0 (tgt := 38) hx hb (by decide) dX8_setBudget_33 (by decide) (fun g2 => (by omega)) (fun g2 => ?_)
    refine lv_iconst (v := nI 0) hx hb dX8_setBudget_36 (by decide) ?_
    exact W.iret hx hb hr (fun t ht _ => ⟨rfl, by rw [ht]; exact hW, hS.F ht⟩) hS.2.2 dX8_setBudget_37
  · skip
    refine lv_iload_n hx hb dX8_setBudget_13 rfl (lv_at hl 2 rfl) ?_
    refine lv_iconst (v := nI 0) hx hb dX8_setBudget_14 (by decide) ?_
    refine lv_sipush (v := nI 9999) hx hb dX8_setBudget_15 (by decide) ?_
    refine q_v (va_runS (As := [.int (y), .int (nI 0), .int (nI 9999)]) (rest := [.ref (bd 0 0)]) ⟨hx, hb, hml, hown, hts⟩ (m_rin l y (nI 0) (nI 9999)) (va_cwS 3 hts gX8_setBudget_X8_in rfl rfl rfl (by decide +kernel) ⟨Nat.le_of_ble_eq_true rfl, Nat.le_of_ble_eq_true rfl⟩) ⟨qU.blind, qU.pre⟩ rfl rfl hl.1 rfl (lv_room (Nat.le_of_ble_eq_true rfl)) dX8_setBudget_18 ⟨Nat.le_of_ble_eq_true rfl, Nat.le_of_ble_eq_true rfl⟩) hS (fun _ h => h.elim) (fun locs hS => ?_)
    refine q_ne0 (tgt := 28) hx hb q_31B dX8_setBudget_21 (by decide) (fun g3 => ?_) (fun g3 => ?_)
    · skip
      refine lv_iconst (v := nI 0) hx hb dX8_setBudget_28 (by decide) ?_
      refine lv_iconst (v := nI 1) hx hb dX8_setBudget_29 (by decide) ?_
      exact absurd ⟨r_un g1, r_un g3⟩ hbad
    · skip
      refine lv_iconst (v := nI 1) hx hb dX8_setBudget_24 (by decide) ?_
      refine lv_goto (tgt := 29) hx hb dX8_setBudget_25 (by decide) ?_
      refine lv_iconst (v := nI 1) hx hb dX8_setBudget_29 (by decide) ?_
      refine q_wv (va_runV (As := [.int (nI 1), .int (nI 1)]) (rest := []) ⟨hx, hb, hml, hown, hts⟩ (m_rfails1 l G A (rT ρ) bd hF 1 (by decide) (by decide) (rT_0 ρ)) (cwV 2 hts gX8_setBudget_X8_fails rfl rfl rfl (by decide +kernel) ⟨Nat.le_of_ble_eq_true rfl, Nat.le_of_ble_eq_true rfl⟩) ⟨rR.blind, qrecv hC (hW.to rLV0) rfl, rR.pre hC hW⟩ rfl rfl hl.1 rfl (lv_room (Nat.le_of_ble_eq_true rfl)) dX8_setBudget_30 ⟨Nat.le_of_ble_eq_true rfl, Nat.le_of_ble_eq_true rfl⟩) hS (fun _ h => h) (fun _ h => h) (fun H1 locs hW hz hk hS => ?_)
      refine q_eq0 (tgt := 38) hx hb (by decide) dX8_setBudget_33 (by decide) (fun g4 => (by omega)) (fun g4 => ?_)
      refine lv_iconst (v := nI 0) hx hb dX8_setBudget_36 (by decide) ?_
      exact W.iret hx hb hr (fun t ht _ => ⟨rfl, by rw [ht]; exact hW, hS.F ht⟩) hS.2.2 dX8_setBudget_37
set_option maxHeartbeats 4000000 in
set_option maxRecDepth 100000 in
theorem x_rrequest1 (l : Launch) (G : QG) (A : Nat → Prop) (ρ bd : QSt) (hF : rWF (rT ρ)) (x y : Int32) (hbad : ¬ ((nI 0 ≤ x ∧ x ≤ nI 3) ∧ (nI 0 ≤ y ∧ y ≤ nI 4))) : Met l yX8_request wsX8_request ({ frames := 2, cells := 0, slots := 0, locals := 42 } : Room) (rR G A ρ bd [.ref (bd 0 0), .int (x), .int (y)]) (qWV (some (.int (nI 0))) (rW G A (qup (rT ρ) 2 0 1) bd) A) 0 0 A := by
  refine Met.ofW (cc := cX8_request) (maxL := 3) (ret := (some .int)) (by decide) rfl ?_
  intro p e s m args below meth c s₁ B hml hv
  obtain ⟨rfl, hC, hW⟩ := hv
  have hx := B.exec
  have hb := B.bytes
  have hr := B.returns
  have hts := atoms_spec (ws := wsX8_request) B.pre
  have hown : s.vm.findClass RX8 = some m.cls := findClass_of_methodNamed B.named
  have hlocks := B.notSynchronized
  have hB := hF.1
  have hn := hF.n
  have hS : va_S A s.heap s.heap [] := va_S.rf
  have hl := lv_entry ([.ref (bd 0 0), .int (x), .int (y)]) (n := 3) (Nat.le_of_ble_eq_true rfl)
  rw [lg_entry_eq]
  generalize (lg_sl ([.ref (bd 0 0), .int (x), .int (y)]) ++ List.replicate (3 - (lg_sl ([.ref (bd 0 0), .int (x), .int (y)])).length) Slot.unset).toArray = ls at hl ⊢
  have hl : lv_has ls 3 [(0, .ref (bd 0 0)), (1, .int (x)), (2, .int (y))] := hl
  have iRX8 : ∀ w ∈ wsX80, w ∈ wsX8_request := by decide +kernel
  refine lv_aload_n hx hb dX8_request_0 rfl (lv_at hl 0 rfl) ?_
  refine lv_iconst (v := nI 0) hx hb dX8_request_1 (by decide) ?_
  refine q_put (C := RX8) (T := TX8) (N := 36) (ty := .int) (v := .int (nI 0)) hx hb hts iRX8 tyX8 tyX8_ok nmX8 hown hC.1 (hW.to rLV0) (hW.in rLV0) hS rfl 0 (by decide) (hts (.fieldLink RX8 100 "LogWeaveModel" "thrown" "I") (List.mem_of_getElem? (i := 1) (by decide +kernel))) rfl rfl (by decide +kernel) rfl rfl (Nat.le_of_ble_eq_true rfl) dX8_request_2 (fun H1 locs hat hsz hoq hS => ?_)
  have hW := hW.upR 2 0 0 rfl rLV0 ((rLV0 (ρ := (qup ρ 2 0 0))).trans (by rw [qup_s]; rfl)) hat hoq
  have hW : rW G A (rT ρ) bd _ := hW
  refine lv_aload_n hx hb dX8_request_5 rfl (lv_at hl 0 rfl) ?_
  refine lv_iload_n hx hb dX8_request_6 rfl (lv_at hl 1 rfl) ?_
  refine q_v (va_runS (As := [.int (x)]) (rest := [.ref (bd 0 0)]) ⟨hx, hb, hml, hown, hts⟩ (m_risSource l x) (va_cwS 1 hts gX8_request_X8_isSource rfl rfl rfl (by decide +kernel) ⟨Nat.le_of_ble_eq_true rfl, Nat.le_of_ble_eq_true rfl⟩) ⟨qU.blind, qU.pre⟩ rfl rfl hl.1 rfl (lv_room (Nat.le_of_ble_eq_true rfl)) dX8_request_7 ⟨Nat.le_of_ble_eq_true rfl, Nat.le_of_ble_eq_true rfl⟩) hS (fun _ h => h.elim) (fun locs hS => ?_)
  refine q_eq0 (tgt := 20) hx hb q_31B dX8_request_10 (by decide) (fun g1 => ?_) (fun g1 => ?_)
  · skip
    refine lv_iconst (v := nI 1) hx hb dX8_request_20 (by decide) ?_
    refine lv_goto (tgt := 25) hx hb dX8_request_21 (by decide) ?_
    refine lv_iconst (v := nI 1) hx hb dX8_request_25 (by decide) ?_
    refine q_wv (va_runV (As := [.int (nI 1), .int (nI 1)]) (rest := []) ⟨hx, hb, hml, hown, hts⟩ (m_rfails1 l G A (rT ρ) bd hF 1 (by decide) (by decide) (rT_0 ρ)) (cwV 2 hts gX8_request_X8_fails rfl rfl rfl (by decide +kernel) ⟨Nat.le_of_ble_eq_true rfl, Nat.le_of_ble_eq_true rfl⟩) ⟨rR.blind, qrecv hC (hW.to rLV0) rfl, rR.pre hC hW⟩ rfl rfl hl.1 rfl (lv_room (Nat.le_of_ble_eq_true rfl)) dX8_request_26 ⟨Nat.le_of_ble_eq_true rfl, Nat.le_of_ble_eq_true rfl⟩) hS (fun _ h => h) (fun _ h => h) (fun H1 locs hW hz hk hS => ?_)
    refine q_ne0 (tgt := 54) hx hb (by decide) dX8_request_29 (by decide) (fun g2 => ?_) (fun g2 => (by omega))
    refine lv_iconst (v := nI 0) hx hb dX8_request_54 (by decide) ?_
    exact W.iret hx hb hr (fun t ht _ => ⟨rfl, by rw [ht]; exact hW, hS.F ht⟩) hS.2.2 dX8_request_55
  · skip
    refine lv_iload_n hx hb dX8_request_13 rfl (lv_at hl 2 rfl) ?_
    refine q_v (va_runS (As := [.int (y)]) (rest := [.ref (bd 0 0)]) ⟨hx, hb, hml, hown, hts⟩ (m_risRank l y) (va_cwS 1 hts gX8_request_X8_isRank rfl rfl rfl (by decide +kernel) ⟨Nat.le_of_ble_eq_true rfl, Nat.le_of_ble_eq_true rfl⟩) ⟨qU.blind, qU.pre⟩ rfl rfl hl.1 rfl (lv_room (Nat.le_of_ble_eq_true rfl)) dX8_request_14 ⟨Nat.le_of_ble_eq_true rfl, Nat.le_of_ble_eq_true rfl⟩) hS (fun _ h => h.elim) (fun locs hS => ?_)
    refine q_ne0 (tgt := 24) hx hb q_31B dX8_request_17 (by decide) (fun g3 => ?_) (fun g3 => ?_)
    · skip
      refine lv_iconst (v := nI 0) hx hb dX8_request_24 (by decide) ?_
      refine lv_iconst (v := nI 1) hx hb dX8_request_25 (by decide) ?_
      exact absurd ⟨r_un g1, r_un g3⟩ hbad
    · skip
      refine lv_iconst (v := nI 1) hx hb dX8_request_20 (by decide) ?_
      refine lv_goto (tgt := 25) hx hb dX8_request_21 (by decide) ?_
      refine lv_iconst (v := nI 1) hx hb dX8_request_25 (by decide) ?_
      refine q_wv (va_runV (As := [.int (nI 1), .int (nI 1)]) (rest := []) ⟨hx, hb, hml, hown, hts⟩ (m_rfails1 l G A (rT ρ) bd hF 1 (by decide) (by decide) (rT_0 ρ)) (cwV 2 hts gX8_request_X8_fails rfl rfl rfl (by decide +kernel) ⟨Nat.le_of_ble_eq_true rfl, Nat.le_of_ble_eq_true rfl⟩) ⟨rR.blind, qrecv hC (hW.to rLV0) rfl, rR.pre hC hW⟩ rfl rfl hl.1 rfl (lv_room (Nat.le_of_ble_eq_true rfl)) dX8_request_26 ⟨Nat.le_of_ble_eq_true rfl, Nat.le_of_ble_eq_true rfl⟩) hS (fun _ h => h) (fun _ h => h) (fun H1 locs hW hz hk hS => ?_)
      refine q_ne0 (tgt := 54) hx hb (by decide) dX8_request_29 (by decide) (fun g4 => ?_) (fun g4 => (by omega))
      refine lv_iconst (v := nI 0) hx hb dX8_request_54 (by decide) ?_
      exact W.iret hx hb hr (fun t ht _ => ⟨rfl, by rw [ht]; exact hW, hS.F ht⟩) hS.2.2 dX8_request_55
set_option maxHeartbeats 4000000 in
set_option maxRecDepth 100000 in
theorem x_rrequest2 (l : Launch) (G : QG) (A : Nat → Prop) (ρ bd : QSt) (hF : rWF (rT ρ)) (s0 r0 : Nat) (hs0 : s0 < 4) (hr0 : r0 < 5) (hn4 : (rT ρ) 0 4 = 20) : Met l yX8_request wsX8_request ({ frames := 2, cells := 0, slots := 0, locals := 42 } : Room) (rR G A ρ bd [.ref (bd 0 0), .int (nI s0), .int (nI r0)]) (qWV (some (.int (nI 0))) (rW G A (qup (rT ρ) 2 0 2) bd) A) 0 0 A := by
  refine Met.ofW (cc := cX8_request) (maxL := 3) (ret := (some .int)) (by decide) rfl ?_
  intro p e s m args below meth c s₁ B hml hv
  obtain ⟨rfl, hC, hW⟩ := hv
  have hx := B.exec
  have hb := B.bytes
  have hr := B.returns
  have hts := atoms_spec (ws := wsX8_request) B.pre
  have hown : s.vm.findClass RX8 = some m.cls := findClass_of_methodNamed B.named
  have hlocks := B.notSynchronized
  have hB := hF.1
  have hn := hF.n
  have hS : va_S A s.heap s.heap [] := va_S.rf
  have hl := lv_entry ([.ref (bd 0 0), .int (nI s0), .int (nI r0)]) (n := 3) (Nat.le_of_ble_eq_true rfl)
  rw [lg_entry_eq]
  generalize (lg_sl ([.ref (bd 0 0), .int (nI s0), .int (nI r0)]) ++ List.replicate (3 - (lg_sl ([.ref (bd 0 0), .int (nI s0), .int (nI r0)])).length) Slot.unset).toArray = ls at hl ⊢
  have hl : lv_has ls 3 [(0, .ref (bd 0 0)), (1, .int (nI s0)), (2, .int (nI r0))] := hl
  have iRX8 : ∀ w ∈ wsX80, w ∈ wsX8_request := by decide +kernel
  refine lv_aload_n hx hb dX8_request_0 rfl (lv_at hl 0 rfl) ?_
  refine lv_iconst (v := nI 0) hx hb dX8_request_1 (by decide) ?_
  refine q_put (C := RX8) (T := TX8) (N := 36) (ty := .int) (v := .int (nI 0)) hx hb hts iRX8 tyX8 tyX8_ok nmX8 hown hC.1 (hW.to rLV0) (hW.in rLV0) hS rfl 0 (by decide) (hts (.fieldLink RX8 100 "LogWeaveModel" "thrown" "I") (List.mem_of_getElem? (i := 1) (by decide +kernel))) rfl rfl (by decide +kernel) rfl rfl (Nat.le_of_ble_eq_true rfl) dX8_request_2 (fun H1 locs hat hsz hoq hS => ?_)
  have hW := hW.upR 2 0 0 rfl rLV0 ((rLV0 (ρ := (qup ρ 2 0 0))).trans (by rw [qup_s]; rfl)) hat hoq
  have hW : rW G A (rT ρ) bd _ := hW
  refine lv_aload_n hx hb dX8_request_5 rfl (lv_at hl 0 rfl) ?_
  refine lv_iload_n hx hb dX8_request_6 rfl (lv_at hl 1 rfl) ?_
  refine q_v (va_runS (As := [.int (nI s0)]) (rest := [.ref (bd 0 0)]) ⟨hx, hb, hml, hown, hts⟩ (m_risSource l (nI s0)) (va_cwS 1 hts gX8_request_X8_isSource rfl rfl rfl (by decide +kernel) ⟨Nat.le_of_ble_eq_true rfl, Nat.le_of_ble_eq_true rfl⟩) ⟨qU.blind, qU.pre⟩ rfl rfl hl.1 rfl (lv_room (Nat.le_of_ble_eq_true rfl)) dX8_request_7 ⟨Nat.le_of_ble_eq_true rfl, Nat.le_of_ble_eq_true rfl⟩) hS (fun _ h => h.elim) (fun locs hS => ?_)
  refine q_ti (y := nI 1) (by rw [qB_t ⟨nI_le (by omega) (by omega), nI_le (by omega) (by decide)⟩]) ?_
  refine q_eq0 (tgt := 20) hx hb (by decide) dX8_request_10 (by decide) (fun g1 => (by omega)) (fun g1 => ?_)
  refine lv_iload_n hx hb dX8_request_13 rfl (lv_at hl 2 rfl) ?_
  refine q_v (va_runS (As := [.int (nI r0)]) (rest := [.ref (bd 0 0)]) ⟨hx, hb, hml, hown, hts⟩ (m_risRank l (nI r0)) (va_cwS 1 hts gX8_request_X8_isRank rfl rfl rfl (by decide +kernel) ⟨Nat.le_of_ble_eq_true rfl, Nat.le_of_ble_eq_true rfl⟩) ⟨qU.blind, qU.pre⟩ rfl rfl hl.1 rfl (lv_room (Nat.le_of_ble_eq_true rfl)) dX8_request_14 ⟨Nat.le_of_ble_eq_true rfl, Nat.le_of_ble_eq_true rfl⟩) hS (fun _ h => h.elim) (fun locs hS => ?_)
  refine q_ti (y := nI 1) (by rw [qB_t ⟨nI_le (by omega) (by omega), nI_le (by omega) (by decide)⟩]) ?_
  refine q_ne0 (tgt := 24) hx hb (by decide) dX8_request_17 (by decide) (fun g2 => ?_) (fun g2 => (by omega))
  refine lv_iconst (v := nI 0) hx hb dX8_request_24 (by decide) ?_
  refine lv_iconst (v := nI 1) hx hb dX8_request_25 (by decide) ?_
  refine q_v (va_runV (As := [.int (nI 0), .int (nI 1)]) (rest := []) ⟨hx, hb, hml, hown, hts⟩ (m_rfails0 l G A (rT ρ) bd hF 1 (rT_0 ρ)) (cwV 2 hts gX8_request_X8_fails rfl rfl rfl (by decide +kernel) ⟨Nat.le_of_ble_eq_true rfl, Nat.le_of_ble_eq_true rfl⟩) ⟨rR.blind, qrecv hC (hW.to rLV0) rfl, rR.pre hC hW⟩ rfl rfl hl.1 rfl (lv_room (Nat.le_of_ble_eq_true rfl)) dX8_request_26 ⟨Nat.le_of_ble_eq_true rfl, Nat.le_of_ble_eq_true rfl⟩) hS (fun _ h => h.elim) (fun locs hS => ?_)
  refine q_ne0 (tgt := 54) hx hb (by decide) dX8_request_29 (by decide) (fun g3 => (by omega)) (fun g3 => ?_)
  refine lv_aload_n hx hb dX8_request_32 rfl (lv_at hl 0 rfl) ?_
  refine lv_aload_n hx hb dX8_request_33 rfl (lv_at hl 0 rfl) ?_
  refine q_get (C := RX8) (T := TX8) (N := 36) hx hb hts iRX8 hown hC.1 (hW.to rLV0) rfl 31 (by decide) (hts (.fieldLink RX8 181 "LogWeaveModel" "requests" "I") (List.mem_of_getElem? (i := 2) (by decide +kernel))) rfl (v := .int (nI ((rT ρ) 0 4))) rfl dX8_request_34 ?_
  refine lv_bipush (v := nI 20) hx hb dX8_request_37 (by decide) ?_
  refine q_ne (tgt := 46) hx hb (q31 (hB _ _)) (by decide) dX8_request_39 (by decide) (fun g4 => ?_) (fun g4 => ?_)
  · skip
    refine lv_iconst (v := nI 0) hx hb dX8_request_46 (by decide) ?_
    refine lv_iconst (v := nI 2) hx hb dX8_request_47 (by decide) ?_
    omega
  · skip
    refine lv_iconst (v := nI 1) hx hb dX8_request_42 (by decide) ?_
    refine lv_goto (tgt := 47) hx hb dX8_request_43 (by decide) ?_
    refine lv_iconst (v := nI 2) hx hb dX8_request_47 (by decide) ?_
    refine q_wv (va_runV (As := [.int (nI 1), .int (nI 2)]) (rest := []) ⟨hx, hb, hml, hown, hts⟩ (m_rfails1 l G A (rT ρ) bd hF 2 (by decide) (by decide) (rT_0 ρ)) (cwV 2 hts gX8_request_X8_fails rfl rfl rfl (by decide +kernel) ⟨Nat.le_of_ble_eq_true rfl, Nat.le_of_ble_eq_true rfl⟩) ⟨rR.blind, qrecv hC (hW.to rLV0) rfl, rR.pre hC hW⟩ rfl rfl hl.1 rfl (lv_room (Nat.le_of_ble_eq_true rfl)) dX8_request_48 ⟨Nat.le_of_ble_eq_true rfl, Nat.le_of_ble_eq_true rfl⟩) hS (fun _ h => h) (fun _ h => h) (fun H1 locs hW hz hk hS => ?_)
    refine q_eq0 (tgt := 56) hx hb (by decide) dX8_request_51 (by decide) (fun g5 => (by omega)) (fun g5 => ?_)
    refine lv_iconst (v := nI 0) hx hb dX8_request_54 (by decide) ?_
    exact W.iret hx hb hr (fun t ht _ => ⟨rfl, by rw [ht]; exact hW, hS.F ht⟩) hS.2.2 dX8_request_55
set_option maxHeartbeats 4000000 in
set_option maxRecDepth 100000 in
theorem x_rarchive2 (l : Launch) (G : QG) (A : Nat → Prop) (ρ bd : QSt) (hF : rWF (rT ρ)) (i : Nat) (hi : i < (rT ρ) 0 0) (hk : (rT ρ) 69 i ≠ 107) : Met l yX8_archive wsX8_archive ({ frames := 2, cells := 0, slots := 0, locals := 43 } : Room) (rR G A ρ bd [.ref (bd 0 0), .int (nI i)]) (qWV (some (.int (nI 0))) (rW G A (qup (rT ρ) 2 0 2) bd) A) 0 0 A := by
  refine Met.ofW (cc := cX8_archive) (maxL := 2) (ret := (some .int)) (by decide) rfl ?_
  intro p e s m args below meth c s₁ B hml hv
  obtain ⟨rfl, hC, hW⟩ := hv
  have hx := B.exec
  have hb := B.bytes
  have hr := B.returns
  have hts := atoms_spec (ws := wsX8_archive) B.pre
  have hown : s.vm.findClass RX8 = some m.cls := findClass_of_methodNamed B.named
  have hlocks := B.notSynchronized
  have hB := hF.1
  have hn := hF.n
  have hS : va_S A s.heap s.heap [] := va_S.rf
  have hl := lv_entry ([.ref (bd 0 0), .int (nI i)]) (n := 2) (Nat.le_of_ble_eq_true rfl)
  rw [lg_entry_eq]
  generalize (lg_sl ([.ref (bd 0 0), .int (nI i)]) ++ List.replicate (2 - (lg_sl ([.ref (bd 0 0), .int (nI i)])).length) Slot.unset).toArray = ls at hl ⊢
  have hl : lv_has ls 2 [(0, .ref (bd 0 0)), (1, .int (nI i))] := hl
  have iRX8 : ∀ w ∈ wsX80, w ∈ wsX8_archive := by decide +kernel
  refine lv_aload_n hx hb dX8_archive_0 rfl (lv_at hl 0 rfl) ?_
  refine lv_iconst (v := nI 0) hx hb dX8_archive_1 (by decide) ?_
  refine q_put (C := RX8) (T := TX8) (N := 36) (ty := .int) (v := .int (nI 0)) hx hb hts iRX8 tyX8 tyX8_ok nmX8 hown hC.1 (hW.to rLV0) (hW.in rLV0) hS rfl 0 (by decide) (hts (.fieldLink RX8 100 "LogWeaveModel" "thrown" "I") (List.mem_of_getElem? (i := 1) (by decide +kernel))) rfl rfl (by decide +kernel) rfl rfl (Nat.le_of_ble_eq_true rfl) dX8_archive_2 (fun H1 locs hat hsz hoq hS => ?_)
  have hW := hW.upR 2 0 0 rfl rLV0 ((rLV0 (ρ := (qup ρ 2 0 0))).trans (by rw [qup_s]; rfl)) hat hoq
  have hW : rW G A (rT ρ) bd _ := hW
  refine lv_aload_n hx hb dX8_archive_5 rfl (lv_at hl 0 rfl) ?_
  refine lv_aload_n hx hb dX8_archive_6 rfl (lv_at hl 0 rfl) ?_
  refine lv_iload_n hx hb dX8_archive_7 rfl (lv_at hl 1 rfl) ?_
  refine q_v (va_runV (As := [.int (nI i)]) (rest := [.ref (bd 0 0)]) ⟨hx, hb, hml, hown, hts⟩ (m_rnoLine0 l G A (rT ρ) bd hF i hi) (cwV 1 hts gX8_archive_X8_noLine rfl rfl rfl (by decide +kernel) ⟨Nat.le_of_ble_eq_true rfl, Nat.le_of_ble_eq_true rfl⟩) ⟨rR.blind, qrecv hC (hW.to rLV0) rfl, rR.pre hC hW⟩ rfl rfl hl.1 rfl (lv_room (Nat.le_of_ble_eq_true rfl)) dX8_archive_8 ⟨Nat.le_of_ble_eq_true rfl, Nat.le_of_ble_eq_true rfl⟩) hS (fun _ h => h.elim) (fun locs hS => ?_)
  refine lv_iconst (v := nI 1) hx hb dX8_archive_11 (by decide) ?_
  refine q_v (va_runV (As := [.int (nI 0), .int (nI 1)]) (rest := []) ⟨hx, hb, hml, hown, hts⟩ (m_rfails0 l G A (rT ρ) bd hF 1 (rT_0 ρ)) (cwV 2 hts gX8_archive_X8_fails rfl rfl rfl (by decide +kernel) ⟨Nat.le_of_ble_eq_true rfl, Nat.le_of_ble_eq_true rfl⟩) ⟨rR.blind, qrecv hC (hW.to rLV0) rfl, rR.pre hC hW⟩ rfl rfl hl.1 rfl (lv_room (Nat.le_of_ble_eq_true rfl)) dX8_archive_12 ⟨Nat.le_of_ble_eq_true rfl, Nat.le_of_ble_eq_true rfl⟩) hS (fun _ h => h.elim) (fun locs hS => ?_)
  refine q_ne0 (tgt := 42) hx hb (by decide) dX8_archive_15 (by decide) (fun g1 => (by omega)) (fun g1 => ?_)
  refine lv_aload_n hx hb dX8_archive_18 rfl (lv_at hl 0 rfl) ?_
  refine lv_aload_n hx hb dX8_archive_19 rfl (lv_at hl 0 rfl) ?_
  refine q_get (C := RX8) (T := TX8) (N := 36) hx hb hts iRX8 hown hC.1 (hW.to rLV0) rfl 8 (by decide) (hts (.fieldLink RX8 25 "LogWeaveModel" "state" "[C") (List.mem_of_getElem? (i := 2) (by decide +kernel))) rfl (v := .ref (bd 6 0)) rfl dX8_archive_20 ?_
  refine lv_iload_n hx hb dX8_archive_23 rfl (lv_at hl 1 rfl) ?_
  refine r_cald hx hb hC.1 (hW.to rLV6) 3 rfl (i := i) (by omega) (by decide) (v := nI ((rT ρ) 69 i)) rfl dX8_archive_24 ?_
  refine lv_bipush (v := nI 107) hx hb dX8_archive_25 (by decide) ?_
  refine q_eq (tgt := 34) hx hb (q31 (hB _ _)) (by decide) dX8_archive_27 (by decide) (fun g2 => ?_) (fun g2 => ?_)
  · skip
    refine lv_iconst (v := nI 0) hx hb dX8_archive_34 (by decide) ?_
    refine lv_iconst (v := nI 2) hx hb dX8_archive_35 (by decide) ?_
    omega
  · skip
    refine lv_iconst (v := nI 1) hx hb dX8_archive_30 (by decide) ?_
    refine lv_goto (tgt := 35) hx hb dX8_archive_31 (by decide) ?_
    refine lv_iconst (v := nI 2) hx hb dX8_archive_35 (by decide) ?_
    refine q_wv (va_runV (As := [.int (nI 1), .int (nI 2)]) (rest := []) ⟨hx, hb, hml, hown, hts⟩ (m_rfails1 l G A (rT ρ) bd hF 2 (by decide) (by decide) (rT_0 ρ)) (cwV 2 hts gX8_archive_X8_fails rfl rfl rfl (by decide +kernel) ⟨Nat.le_of_ble_eq_true rfl, Nat.le_of_ble_eq_true rfl⟩) ⟨rR.blind, qrecv hC (hW.to rLV0) rfl, rR.pre hC hW⟩ rfl rfl hl.1 rfl (lv_room (Nat.le_of_ble_eq_true rfl)) dX8_archive_36 ⟨Nat.le_of_ble_eq_true rfl, Nat.le_of_ble_eq_true rfl⟩) hS (fun _ h => h) (fun _ h => h) (fun H1 locs hW hz hk hS => ?_)
    refine q_eq0 (tgt := 44) hx hb (by decide) dX8_archive_39 (by decide) (fun g3 => (by omega)) (fun g3 => ?_)
    refine lv_iconst (v := nI 0) hx hb dX8_archive_42 (by decide) ?_
    exact W.iret hx hb hr (fun t ht _ => ⟨rfl, by rw [ht]; exact hW, hS.F ht⟩) hS.2.2 dX8_archive_43
set_option maxHeartbeats 4000000 in
set_option maxRecDepth 100000 in
theorem x_ranswer1 (l : Launch) (G : QG) (A : Nat → Prop) (ρ bd : QSt) (hF : rWF (rT ρ)) (x : Int32) (hx0 : ¬ rIn x ((rT ρ) 0 4)) : Met l yX8_answer wsX8_answer ({ frames := 1, cells := 0, slots := 0, locals := 22 } : Room) (rR G A ρ bd [.ref (bd 0 0), .int (x)]) (qWV (some (.int (nI 0))) (rW G A (qup (rT ρ) 2 0 1) bd) A) 0 0 A := by
  refine Met.ofW (cc := cX8_answer) (maxL := 2) (ret := (some .int)) (by decide) rfl ?_
  intro p e s m args below meth c s₁ B hml hv
  obtain ⟨rfl, hC, hW⟩ := hv
  have hx := B.exec
  have hb := B.bytes
  have hr := B.returns
  have hts := atoms_spec (ws := wsX8_answer) B.pre
  have hown : s.vm.findClass RX8 = some m.cls := findClass_of_methodNamed B.named
  have hlocks := B.notSynchronized
  have hB := hF.1
  have hn := hF.n
  have hS : va_S A s.heap s.heap [] := va_S.rf
  have hl := lv_entry ([.ref (bd 0 0), .int (x)]) (n := 2) (Nat.le_of_ble_eq_true rfl)
  rw [lg_entry_eq]
  generalize (lg_sl ([.ref (bd 0 0), .int (x)]) ++ List.replicate (2 - (lg_sl ([.ref (bd 0 0), .int (x)])).length) Slot.unset).toArray = ls at hl ⊢
  have hl : lv_has ls 2 [(0, .ref (bd 0 0)), (1, .int (x))] := hl
  have iRX8 : ∀ w ∈ wsX80, w ∈ wsX8_answer := by decide +kernel
  refine lv_aload_n hx hb dX8_answer_0 rfl (lv_at hl 0 rfl) ?_
  refine lv_iconst (v := nI 0) hx hb dX8_answer_1 (by decide) ?_
  refine q_put (C := RX8) (T := TX8) (N := 36) (ty := .int) (v := .int (nI 0)) hx hb hts iRX8 tyX8 tyX8_ok nmX8 hown hC.1 (hW.to rLV0) (hW.in rLV0) hS rfl 0 (by decide) (hts (.fieldLink RX8 100 "LogWeaveModel" "thrown" "I") (List.mem_of_getElem? (i := 1) (by decide +kernel))) rfl rfl (by decide +kernel) rfl rfl (Nat.le_of_ble_eq_true rfl) dX8_answer_2 (fun H1 locs hat hsz hoq hS => ?_)
  have hW := hW.upR 2 0 0 rfl rLV0 ((rLV0 (ρ := (qup ρ 2 0 0))).trans (by rw [qup_s]; rfl)) hat hoq
  have hW : rW G A (rT ρ) bd _ := hW
  refine lv_aload_n hx hb dX8_answer_5 rfl (lv_at hl 0 rfl) ?_
  refine lv_iload_n hx hb dX8_answer_6 rfl (lv_at hl 1 rfl) ?_
  refine lv_iconst (v := nI 0) hx hb dX8_answer_7 (by decide) ?_
  refine lv_aload_n hx hb dX8_answer_8 rfl (lv_at hl 0 rfl) ?_
  refine q_get (C := RX8) (T := TX8) (N := 36) hx hb hts iRX8 hown hC.1 (hW.to rLV0) rfl 31 (by decide) (hts (.fieldLink RX8 181 "LogWeaveModel" "requests" "I") (List.mem_of_getElem? (i := 2) (by decide +kernel))) rfl (v := .int (nI ((rT ρ) 0 4))) rfl dX8_answer_9 ?_
  refine lv_iconst (v := nI 1) hx hb dX8_answer_12 (by decide) ?_
  refine lv_isub hx hb dX8_answer_13 ?_
  refine q_ti (y := nI ((rT ρ) 0 4) - 1) rfl ?_
  refine q_v (va_runS (As := [.int (x), .int (nI 0), .int (nI ((rT ρ) 0 4) - 1)]) (rest := [.ref (bd 0 0)]) ⟨hx, hb, hml, hown, hts⟩ (m_rin l x (nI 0) (nI ((rT ρ) 0 4) - 1)) (va_cwS 3 hts gX8_answer_X8_in rfl rfl rfl (by decide +kernel) ⟨Nat.le_of_ble_eq_true rfl, Nat.le_of_ble_eq_true rfl⟩) ⟨qU.blind, qU.pre⟩ rfl rfl hl.1 rfl (lv_room (Nat.le_of_ble_eq_true rfl)) dX8_answer_14 ⟨Nat.le_of_ble_eq_true rfl, Nat.le_of_ble_eq_true rfl⟩) hS (fun _ h => h.elim) (fun locs hS => ?_)
  refine q_ti (y := nI 0) (by rw [r_in0 (hB _ _) hx0]) ?_
  refine q_ne0 (tgt := 24) hx hb (by decide) dX8_answer_17 (by decide) (fun g1 => (by omega)) (fun g1 => ?_)
  refine lv_iconst (v := nI 1) hx hb dX8_answer_20 (by decide) ?_
  refine lv_goto (tgt := 25) hx hb dX8_answer_21 (by decide) ?_
  refine lv_iconst (v := nI 1) hx hb dX8_answer_25 (by decide) ?_
  refine q_wv (va_runV (As := [.int (nI 1), .int (nI 1)]) (rest := []) ⟨hx, hb, hml, hown, hts⟩ (m_rfails1 l G A (rT ρ) bd hF 1 (by decide) (by decide) (rT_0 ρ)) (cwV 2 hts gX8_answer_X8_fails rfl rfl rfl (by decide +kernel) ⟨Nat.le_of_ble_eq_true rfl, Nat.le_of_ble_eq_true rfl⟩) ⟨rR.blind, qrecv hC (hW.to rLV0) rfl, rR.pre hC hW⟩ rfl rfl hl.1 rfl (lv_room (Nat.le_of_ble_eq_true rfl)) dX8_answer_26 ⟨Nat.le_of_ble_eq_true rfl, Nat.le_of_ble_eq_true rfl⟩) hS (fun _ h => h) (fun _ h => h) (fun H1 locs hW hz hk hS => ?_)
  refine q_ne0 (tgt := 55) hx hb (by decide) dX8_answer_29 (by decide) (fun g2 => ?_) (fun g2 => (by omega))
  refine lv_iconst (v := nI 0) hx hb dX8_answer_55 (by decide) ?_
  refine lv_goto (tgt := 65) hx hb dX8_answer_56 (by decide) ?_
  exact W.iret hx hb hr (fun t ht _ => ⟨rfl, by rw [ht]; exact hW, hS.F ht⟩) hS.2.2 dX8_answer_65
set_option maxHeartbeats 4000000 in
set_option maxRecDepth 100000 in
theorem x_ranswer2 (l : Launch) (G : QG) (A : Nat → Prop) (ρ bd : QSt) (hF : rWF (rT ρ)) (i : Nat) (hi : i < (rT ρ) 0 4) (h1 : (rT ρ) 195 i = 0) : Met l yX8_answer wsX8_answer ({ frames := 1, cells := 0, slots := 0, locals := 22 } : Room) (rR G A ρ bd [.ref (bd 0 0), .int (nI i)]) (qWV (some (.int (nI 0))) (rW G A (qup (rT ρ) 2 0 2) bd) A) 0 0 A := by
  refine Met.ofW (cc := cX8_answer) (maxL := 2) (ret := (some .int)) (by decide) rfl ?_
  intro p e s m args below meth c s₁ B hml hv
  obtain ⟨rfl, hC, hW⟩ := hv
  have hx := B.exec
  have hb := B.bytes
  have hr := B.returns
  have hts := atoms_spec (ws := wsX8_answer) B.pre
  have hown : s.vm.findClass RX8 = some m.cls := findClass_of_methodNamed B.named
  have hlocks := B.notSynchronized
  have hB := hF.1
  have hn := hF.n
  have hS : va_S A s.heap s.heap [] := va_S.rf
  have hl := lv_entry ([.ref (bd 0 0), .int (nI i)]) (n := 2) (Nat.le_of_ble_eq_true rfl)
  rw [lg_entry_eq]
  generalize (lg_sl ([.ref (bd 0 0), .int (nI i)]) ++ List.replicate (2 - (lg_sl ([.ref (bd 0 0), .int (nI i)])).length) Slot.unset).toArray = ls at hl ⊢
  have hl : lv_has ls 2 [(0, .ref (bd 0 0)), (1, .int (nI i))] := hl
  have iRX8 : ∀ w ∈ wsX80, w ∈ wsX8_answer := by decide +kernel
  refine lv_aload_n hx hb dX8_answer_0 rfl (lv_at hl 0 rfl) ?_
  refine lv_iconst (v := nI 0) hx hb dX8_answer_1 (by decide) ?_
  refine q_put (C := RX8) (T := TX8) (N := 36) (ty := .int) (v := .int (nI 0)) hx hb hts iRX8 tyX8 tyX8_ok nmX8 hown hC.1 (hW.to rLV0) (hW.in rLV0) hS rfl 0 (by decide) (hts (.fieldLink RX8 100 "LogWeaveModel" "thrown" "I") (List.mem_of_getElem? (i := 1) (by decide +kernel))) rfl rfl (by decide +kernel) rfl rfl (Nat.le_of_ble_eq_true rfl) dX8_answer_2 (fun H1 locs hat hsz hoq hS => ?_)
  have hW := hW.upR 2 0 0 rfl rLV0 ((rLV0 (ρ := (qup ρ 2 0 0))).trans (by rw [qup_s]; rfl)) hat hoq
  have hW : rW G A (rT ρ) bd _ := hW
  refine lv_aload_n hx hb dX8_answer_5 rfl (lv_at hl 0 rfl) ?_
  refine lv_iload_n hx hb dX8_answer_6 rfl (lv_at hl 1 rfl) ?_
  refine lv_iconst (v := nI 0) hx hb dX8_answer_7 (by decide) ?_
  refine lv_aload_n hx hb dX8_answer_8 rfl (lv_at hl 0 rfl) ?_
  refine q_get (C := RX8) (T := TX8) (N := 36) hx hb hts iRX8 hown hC.1 (hW.to rLV0) rfl 31 (by decide) (hts (.fieldLink RX8 181 "LogWeaveModel" "requests" "I") (List.mem_of_getElem? (i := 2) (by decide +kernel))) rfl (v := .int (nI ((rT ρ) 0 4))) rfl dX8_answer_9 ?_
  refine lv_iconst (v := nI 1) hx hb dX8_answer_12 (by decide) ?_
  refine lv_isub hx hb dX8_answer_13 ?_
  refine q_ti (y := nI ((rT ρ) 0 4) - 1) rfl ?_
  refine q_v (va_runS (As := [.int (nI i), .int (nI 0), .int (nI ((rT ρ) 0 4) - 1)]) (rest := [.ref (bd 0 0)]) ⟨hx, hb, hml, hown, hts⟩ (m_rin l (nI i) (nI 0) (nI ((rT ρ) 0 4) - 1)) (va_cwS 3 hts gX8_answer_X8_in rfl rfl rfl (by decide +kernel) ⟨Nat.le_of_ble_eq_true rfl, Nat.le_of_ble_eq_true rfl⟩) ⟨qU.blind, qU.pre⟩ rfl rfl hl.1 rfl (lv_room (Nat.le_of_ble_eq_true rfl)) dX8_answer_14 ⟨Nat.le_of_ble_eq_true rfl, Nat.le_of_ble_eq_true rfl⟩) hS (fun _ h => h.elim) (fun locs hS => ?_)
  refine q_ti (y := nI 1) (by rw [r_in1 hi (hB _ _)]) ?_
  refine q_ne0 (tgt := 24) hx hb (by decide) dX8_answer_17 (by decide) (fun g1 => ?_) (fun g1 => (by omega))
  refine lv_iconst (v := nI 0) hx hb dX8_answer_24 (by decide) ?_
  refine lv_iconst (v := nI 1) hx hb dX8_answer_25 (by decide) ?_
  refine q_v (va_runV (As := [.int (nI 0), .int (nI 1)]) (rest := []) ⟨hx, hb, hml, hown, hts⟩ (m_rfails0 l G A (rT ρ) bd hF 1 (rT_0 ρ)) (cwV 2 hts gX8_answer_X8_fails rfl rfl rfl (by decide +kernel) ⟨Nat.le_of_ble_eq_true rfl, Nat.le_of_ble_eq_true rfl⟩) ⟨rR.blind, qrecv hC (hW.to rLV0) rfl, rR.pre hC hW⟩ rfl rfl hl.1 rfl (lv_room (Nat.le_of_ble_eq_true rfl)) dX8_answer_26 ⟨Nat.le_of_ble_eq_true rfl, Nat.le_of_ble_eq_true rfl⟩) hS (fun _ h => h.elim) (fun locs hS => ?_)
  refine q_ne0 (tgt := 55) hx hb (by decide) dX8_answer_29 (by decide) (fun g2 => (by omega)) (fun g2 => ?_)
  refine lv_aload_n hx hb dX8_answer_32 rfl (lv_at hl 0 rfl) ?_
  refine lv_aload_n hx hb dX8_answer_33 rfl (lv_at hl 0 rfl) ?_
  refine q_get (C := RX8) (T := TX8) (N := 36) hx hb hts iRX8 hown hC.1 (hW.to rLV0) rfl 35 (by decide) (hts (.fieldLink RX8 97 "LogWeaveModel" "answer" "[I") (List.mem_of_getElem? (i := 3) (by decide +kernel))) rfl (v := .ref (bd 29 0)) rfl dX8_answer_34 ?_
  refine lv_iload_n hx hb dX8_answer_37 rfl (lv_at hl 1 rfl) ?_
  refine r_iald hx hb hC.1 (hW.to rLV29) 1 rfl (i := i) (by omega) (by decide) (v := nI ((rT ρ) 195 i) - 1) rfl dX8_answer_38 ?_
  refine lv_iconst (v := -1) hx hb dX8_answer_39 (by decide) ?_
  refine q_neP hx hb (q_m0 (hB _ _)) dX8_answer_40 (tgt := 47) (by decide) (fun g3 => ?_) (fun g3 => ?_)
  · skip
    refine lv_iconst (v := nI 0) hx hb dX8_answer_47 (by decide) ?_
    refine lv_iconst (v := nI 2) hx hb dX8_answer_48 (by decide) ?_
    omega
  · skip
    refine lv_iconst (v := nI 1) hx hb dX8_answer_43 (by decide) ?_
    refine lv_goto (tgt := 48) hx hb dX8_answer_44 (by decide) ?_
    refine lv_iconst (v := nI 2) hx hb dX8_answer_48 (by decide) ?_
    refine q_wv (va_runV (As := [.int (nI 1), .int (nI 2)]) (rest := []) ⟨hx, hb, hml, hown, hts⟩ (m_rfails1 l G A (rT ρ) bd hF 2 (by decide) (by decide) (rT_0 ρ)) (cwV 2 hts gX8_answer_X8_fails rfl rfl rfl (by decide +kernel) ⟨Nat.le_of_ble_eq_true rfl, Nat.le_of_ble_eq_true rfl⟩) ⟨rR.blind, qrecv hC (hW.to rLV0) rfl, rR.pre hC hW⟩ rfl rfl hl.1 rfl (lv_room (Nat.le_of_ble_eq_true rfl)) dX8_answer_49 ⟨Nat.le_of_ble_eq_true rfl, Nat.le_of_ble_eq_true rfl⟩) hS (fun _ h => h) (fun _ h => h) (fun H1 locs hW hz hk hS => ?_)
    refine q_eq0 (tgt := 59) hx hb (by decide) dX8_answer_52 (by decide) (fun g4 => (by omega)) (fun g4 => ?_)
    refine lv_iconst (v := nI 0) hx hb dX8_answer_55 (by decide) ?_
    refine lv_goto (tgt := 65) hx hb dX8_answer_56 (by decide) ?_
    exact W.iret hx hb hr (fun t ht _ => ⟨rfl, by rw [ht]; exact hW, hS.F ht⟩) hS.2.2 dX8_answer_65
set_option maxHeartbeats 4000000 in
set_option maxRecDepth 100000 in
theorem x_raddLine1 (l : Launch) (G : QG) (A : Nat → Prop) (ρ bd : QSt) (hF : rWF (rT ρ)) (x0 x1 x2 x3 x4 x5 : Int32) (hbad : ¬ ((nI 0 ≤ x0 ∧ x0 ≤ nI 3) ∧ (nI 0 ≤ x1 ∧ x1 ≤ nI 4) ∧ (nI 0 ≤ x2 ∧ x2 ≤ nI 99) ∧ (nI 0 ≤ x3 ∧ x3 ≤ nI 99) ∧ (nI 0 ≤ x4 ∧ x4 ≤ nI 99) ∧ (nI 1 ≤ x5 ∧ x5 ≤ nI 99))) : Met l yX8_addLine wsX8_addLine ({ frames := 2, cells := 0, slots := 0, locals := 42 } : Room) (rR G A ρ bd [.ref (bd 0 0), .int (x0), .int (x1), .int (x2), .int (x3), .int (x4), .int (x5)]) (qWV (some (.int (nI 0))) (rW G A (qup (rT ρ) 2 0 1) bd) A) 0 0 A := by
  refine Met.ofW (cc := cX8_addLine) (maxL := 10) (ret := (some .int)) (by decide) rfl ?_
  intro p e s m args below meth c s₁ B hml hv
  obtain ⟨rfl, hC, hW⟩ := hv
  have hx := B.exec
  have hb := B.bytes
  have hr := B.returns
  have hts := atoms_spec (ws := wsX8_addLine) B.pre
  have hown : s.vm.findClass RX8 = some m.cls := findClass_of_methodNamed B.named
  have hlocks := B.notSynchronized
  have hB := hF.1
  have hn := hF.n
  have hS : va_S A s.heap s.heap [] := va_S.rf
  have hl := lv_entry ([.ref (bd 0 0), .int (x0), .int (x1), .int (x2), .int (x3), .int (x4), .int (x5)]) (n := 10) (Nat.le_of_ble_eq_true rfl)
  rw [lg_entry_eq]
  generalize (lg_sl ([.ref (bd 0 0), .int (x0), .int (x1), .int (x2), .int (x3), .int (x4), .int (x5)]) ++ List.replicate (10 - (lg_sl ([.ref (bd 0 0), .int (x0), .int (x1), .int (x2), .int (x3), .int (x4), .int (x5)])).length) Slot.unset).toArray = ls at hl ⊢
  have hl : lv_has ls 10 [(0, .ref (bd 0 0)), (1, .int (x0)), (2, .int (x1)), (3, .int (x2)), (4, .int (x3)), (5, .int (x4)), (6, .int (x5))] := hl
  have iRX8 : ∀ w ∈ wsX80, w ∈ wsX8_addLine := by decide +kernel
  refine lv_aload_n hx hb dX8_addLine_0 rfl (lv_at hl 0 rfl) ?_
  refine lv_iconst (v := nI 0) hx hb dX8_addLine_1 (by decide) ?_
  refine q_put (C := RX8) (T := TX8) (N := 36) (ty := .int) (v := .int (nI 0)) hx hb hts iRX8 tyX8 tyX8_ok nmX8 hown hC.1 (hW.to rLV0) (hW.in rLV0) hS rfl 0 (by decide) (hts (.fieldLink RX8 100 "LogWeaveModel" "thrown" "I") (List.mem_of_getElem? (i := 1) (by decide +kernel))) rfl rfl (by decide +kernel) rfl rfl (Nat.le_of_ble_eq_true rfl) dX8_addLine_2 (fun H1 locs hat hsz hoq hS => ?_)
  have hW := hW.upR 2 0 0 rfl rLV0 ((rLV0 (ρ := (qup ρ 2 0 0))).trans (by rw [qup_s]; rfl)) hat hoq
  have hW : rW G A (rT ρ) bd _ := hW
  refine lv_iload_n hx hb dX8_addLine_5 rfl (lv_at hl 1 rfl) ?_
  refine q_v (va_runS (As := [.int (x0)]) (rest := []) ⟨hx, hb, hml, hown, hts⟩ (m_risSource l x0) (va_cwS 1 hts gX8_addLine_X8_isSource rfl rfl rfl (by decide +kernel) ⟨Nat.le_of_ble_eq_true rfl, Nat.le_of_ble_eq_true rfl⟩) ⟨qU.blind, qU.pre⟩ rfl rfl hl.1 rfl (lv_room (Nat.le_of_ble_eq_true rfl)) dX8_addLine_6 ⟨Nat.le_of_ble_eq_true rfl, Nat.le_of_ble_eq_true rfl⟩) hS (fun _ h => h.elim) (fun locs hS => ?_)
  refine q_eq0 (tgt := 66) hx hb q_31B dX8_addLine_9 (by decide) (fun g1 => ?_) (fun g1 => ?_)
  · skip
    refine lv_iconst (v := nI 0) hx hb dX8_addLine_66 (by decide) ?_
    refine lv_istore (lv' := [(7, .int (nI 0)), (0, .ref (bd 0 0)), (1, .int (x0)), (2, .int (x1)), (3, .int (x2)), (4, .int (x3)), (5, .int (x4)), (6, .int (x5))]) hx hb dX8_addLine_67 hl (by decide) rfl (fun ls hl => ?_)
    refine lv_aload_n hx hb dX8_addLine_69 rfl (lv_at hl 1 rfl) ?_
    refine lv_iload hx hb dX8_addLine_70 (lv_at hl 0 rfl) ?_
    refine q_ne0 (tgt := 79) hx hb (by decide) dX8_addLine_72 (by decide) (fun g2 => (by omega)) (fun g2 => ?_)
    refine lv_iconst (v := nI 1) hx hb dX8_addLine_75 (by decide) ?_
    refine lv_goto (tgt := 80) hx hb dX8_addLine_76 (by decide) ?_
    refine lv_iconst (v := nI 1) hx hb dX8_addLine_80 (by decide) ?_
    refine q_wv (va_runV (As := [.int (nI 1), .int (nI 1)]) (rest := []) ⟨hx, hb, hml, hown, hts⟩ (m_rfails1 l G A (rT ρ) bd hF 1 (by decide) (by decide) (rT_0 ρ)) (cwV 2 hts gX8_addLine_X8_fails rfl rfl rfl (by decide +kernel) ⟨Nat.le_of_ble_eq_true rfl, Nat.le_of_ble_eq_true rfl⟩) ⟨rR.blind, qrecv hC (hW.to rLV0) rfl, rR.pre hC hW⟩ rfl rfl hl.1 rfl (lv_room (Nat.le_of_ble_eq_true rfl)) dX8_addLine_81 ⟨Nat.le_of_ble_eq_true rfl, Nat.le_of_ble_eq_true rfl⟩) hS (fun _ h => h) (fun _ h => h) (fun H1 locs hW hz hk hS => ?_)
    refine q_ne0 (tgt := 110) hx hb (by decide) dX8_addLine_84 (by decide) (fun g3 => ?_) (fun g3 => (by omega))
    refine lv_iconst (v := nI 0) hx hb dX8_addLine_110 (by decide) ?_
    exact W.iret hx hb hr (fun t ht _ => ⟨rfl, by rw [ht]; exact hW, hS.F ht⟩) hS.2.2 dX8_addLine_111
  · skip
    refine lv_iload_n hx hb dX8_addLine_12 rfl (lv_at hl 2 rfl) ?_
    refine q_v (va_runS (As := [.int (x1)]) (rest := []) ⟨hx, hb, hml, hown, hts⟩ (m_risRank l x1) (va_cwS 1 hts gX8_addLine_X8_isRank rfl rfl rfl (by decide +kernel) ⟨Nat.le_of_ble_eq_true rfl, Nat.le_of_ble_eq_true rfl⟩) ⟨qU.blind, qU.pre⟩ rfl rfl hl.1 rfl (lv_room (Nat.le_of_ble_eq_true rfl)) dX8_addLine_13 ⟨Nat.le_of_ble_eq_true rfl, Nat.le_of_ble_eq_true rfl⟩) hS (fun _ h => h.elim) (fun locs hS => ?_)
    refine q_eq0 (tgt := 66) hx hb q_31B dX8_addLine_16 (by decide) (fun g4 => ?_) (fun g4 => ?_)
    · skip
      refine lv_iconst (v := nI 0) hx hb dX8_addLine_66 (by decide) ?_
      refine lv_istore (lv' := [(7, .int (nI 0)), (0, .ref (bd 0 0)), (1, .int (x0)), (2, .int (x1)), (3, .int (x2)), (4, .int (x3)), (5, .int (x4)), (6, .int (x5))]) hx hb dX8_addLine_67 hl (by decide) rfl (fun ls hl => ?_)
      refine lv_aload_n hx hb dX8_addLine_69 rfl (lv_at hl 1 rfl) ?_
      refine lv_iload hx hb dX8_addLine_70 (lv_at hl 0 rfl) ?_
      refine q_ne0 (tgt := 79) hx hb (by decide) dX8_addLine_72 (by decide) (fun g5 => (by omega)) (fun g5 => ?_)
      refine lv_iconst (v := nI 1) hx hb dX8_addLine_75 (by decide) ?_
      refine lv_goto (tgt := 80) hx hb dX8_addLine_76 (by decide) ?_
      refine lv_iconst (v := nI 1) hx hb dX8_addLine_80 (by decide) ?_
      refine q_wv (va_runV (As := [.int (nI 1), .int (nI 1)]) (rest := []) ⟨hx, hb, hml, hown, hts⟩ (m_rfails1 l G A (rT ρ) bd hF 1 (by decide) (by decide) (rT_0 ρ)) (cwV 2 hts gX8_addLine_X8_fails rfl rfl rfl (by decide +kernel) ⟨Nat.le_of_ble_eq_true rfl, Nat.le_of_ble_eq_true rfl⟩) ⟨rR.blind, qrecv hC (hW.to rLV0) rfl, rR.pre hC hW⟩ rfl rfl hl.1 rfl (lv_room (Nat.le_of_ble_eq_true rfl)) dX8_addLine_81 ⟨Nat.le_of_ble_eq_true rfl, Nat.le_of_ble_eq_true rfl⟩) hS (fun _ h => h) (fun _ h => h) (fun H1 locs hW hz hk hS => ?_)
      refine q_ne0 (tgt := 110) hx hb (by decide) dX8_addLine_84 (by decide) (fun g6 => ?_) (fun g6 => (by omega))
      refine lv_iconst (v := nI 0) hx hb dX8_addLine_110 (by decide) ?_
      exact W.iret hx hb hr (fun t ht _ => ⟨rfl, by rw [ht]; exact hW, hS.F ht⟩) hS.2.2 dX8_addLine_111
    · skip
      refine lv_iload_n hx hb dX8_addLine_19 rfl (lv_at hl 3 rfl) ?_
      refine lv_iconst (v := nI 0) hx hb dX8_addLine_20 (by decide) ?_
      refine lv_bipush (v := nI 99) hx hb dX8_addLine_21 (by decide) ?_
      refine q_v (va_runS (As := [.int (x2), .int (nI 0), .int (nI 99)]) (rest := []) ⟨hx, hb, hml, hown, hts⟩ (m_rin l x2 (nI 0) (nI 99)) (va_cwS 3 hts gX8_addLine_X8_in rfl rfl rfl (by decide +kernel) ⟨Nat.le_of_ble_eq_true rfl, Nat.le_of_ble_eq_true rfl⟩) ⟨qU.blind, qU.pre⟩ rfl rfl hl.1 rfl (lv_room (Nat.le_of_ble_eq_true rfl)) dX8_addLine_23 ⟨Nat.le_of_ble_eq_true rfl, Nat.le_of_ble_eq_true rfl⟩) hS (fun _ h => h.elim) (fun locs hS => ?_)
      refine q_eq0 (tgt := 66) hx hb q_31B dX8_addLine_26 (by decide) (fun g7 => ?_) (fun g7 => ?_)
      · skip
        refine lv_iconst (v := nI 0) hx hb dX8_addLine_66 (by decide) ?_
        refine lv_istore (lv' := [(7, .int (nI 0)), (0, .ref (bd 0 0)), (1, .int (x0)), (2, .int (x1)), (3, .int (x2)), (4, .int (x3)), (5, .int (x4)), (6, .int (x5))]) hx hb dX8_addLine_67 hl (by decide) rfl (fun ls hl => ?_)
        refine lv_aload_n hx hb dX8_addLine_69 rfl (lv_at hl 1 rfl) ?_
        refine lv_iload hx hb dX8_addLine_70 (lv_at hl 0 rfl) ?_
        refine q_ne0 (tgt := 79) hx hb (by decide) dX8_addLine_72 (by decide) (fun g8 => (by omega)) (fun g8 => ?_)
        refine lv_iconst (v := nI 1) hx hb dX8_addLine_75 (by decide) ?_
        refine lv_goto (tgt := 80) hx hb dX8_addLine_76 (by decide) ?_
        refine lv_iconst (v := nI 1) hx hb dX8_addLine_80 (by decide) ?_
        refine q_wv (va_runV (As := [.int (nI 1), .int (nI 1)]) (rest := []) ⟨hx, hb, hml, hown, hts⟩ (m_rfails1 l G A (rT ρ) bd hF 1 (by decide) (by decide) (rT_0 ρ)) (cwV 2 hts gX8_addLine_X8_fails rfl rfl rfl (by decide +kernel) ⟨Nat.le_of_ble_eq_true rfl, Nat.le_of_ble_eq_true rfl⟩) ⟨rR.blind, qrecv hC (hW.to rLV0) rfl, rR.pre hC hW⟩ rfl rfl hl.1 rfl (lv_room (Nat.le_of_ble_eq_true rfl)) dX8_addLine_81 ⟨Nat.le_of_ble_eq_true rfl, Nat.le_of_ble_eq_true rfl⟩) hS (fun _ h => h) (fun _ h => h) (fun H1 locs hW hz hk hS => ?_)
        refine q_ne0 (tgt := 110) hx hb (by decide) dX8_addLine_84 (by decide) (fun g9 => ?_) (fun g9 => (by omega))
        refine lv_iconst (v := nI 0) hx hb dX8_addLine_110 (by decide) ?_
        exact W.iret hx hb hr (fun t ht _ => ⟨rfl, by rw [ht]; exact hW, hS.F ht⟩) hS.2.2 dX8_addLine_111
      · skip
        refine lv_iload hx hb dX8_addLine_29 (lv_at hl 4 rfl) ?_
        refine lv_iconst (v := nI 0) hx hb dX8_addLine_31 (by decide) ?_
        refine lv_bipush (v := nI 99) hx hb dX8_addLine_32 (by decide) ?_
        refine q_v (va_runS (As := [.int (x3), .int (nI 0), .int (nI 99)]) (rest := []) ⟨hx, hb, hml, hown, hts⟩ (m_rin l x3 (nI 0) (nI 99)) (va_cwS 3 hts gX8_addLine_X8_in rfl rfl rfl (by decide +kernel) ⟨Nat.le_of_ble_eq_true rfl, Nat.le_of_ble_eq_true rfl⟩) ⟨qU.blind, qU.pre⟩ rfl rfl hl.1 rfl (lv_room (Nat.le_of_ble_eq_true rfl)) dX8_addLine_34 ⟨Nat.le_of_ble_eq_true rfl, Nat.le_of_ble_eq_true rfl⟩) hS (fun _ h => h.elim) (fun locs hS => ?_)
        refine q_eq0 (tgt := 66) hx hb q_31B dX8_addLine_37 (by decide) (fun g10 => ?_) (fun g10 => ?_)
        · skip
          refine lv_iconst (v := nI 0) hx hb dX8_addLine_66 (by decide) ?_
          refine lv_istore (lv' := [(7, .int (nI 0)), (0, .ref (bd 0 0)), (1, .int (x0)), (2, .int (x1)), (3, .int (x2)), (4, .int (x3)), (5, .int (x4)), (6, .int (x5))]) hx hb dX8_addLine_67 hl (by decide) rfl (fun ls hl => ?_)
          refine lv_aload_n hx hb dX8_addLine_69 rfl (lv_at hl 1 rfl) ?_
          refine lv_iload hx hb dX8_addLine_70 (lv_at hl 0 rfl) ?_
          refine q_ne0 (tgt := 79) hx hb (by decide) dX8_addLine_72 (by decide) (fun g11 => (by omega)) (fun g11 => ?_)
          refine lv_iconst (v := nI 1) hx hb dX8_addLine_75 (by decide) ?_
          refine lv_goto (tgt := 80) hx hb dX8_addLine_76 (by decide) ?_
          refine lv_iconst (v := nI 1) hx hb dX8_addLine_80 (by decide) ?_
          refine q_wv (va_runV (As := [.int (nI 1), .int (nI 1)]) (rest := []) ⟨hx, hb, hml, hown, hts⟩ (m_rfails1 l G A (rT ρ) bd hF 1 (by decide) (by decide) (rT_0 ρ)) (cwV 2 hts gX8_addLine_X8_fails rfl rfl rfl (by decide +kernel) ⟨Nat.le_of_ble_eq_true rfl, Nat.le_of_ble_eq_true rfl⟩) ⟨rR.blind, qrecv hC (hW.to rLV0) rfl, rR.pre hC hW⟩ rfl rfl hl.1 rfl (lv_room (Nat.le_of_ble_eq_true rfl)) dX8_addLine_81 ⟨Nat.le_of_ble_eq_true rfl, Nat.le_of_ble_eq_true rfl⟩) hS (fun _ h => h) (fun _ h => h) (fun H1 locs hW hz hk hS => ?_)
          refine q_ne0 (tgt := 110) hx hb (by decide) dX8_addLine_84 (by decide) (fun g12 => ?_) (fun g12 => (by omega))
          refine lv_iconst (v := nI 0) hx hb dX8_addLine_110 (by decide) ?_
          exact W.iret hx hb hr (fun t ht _ => ⟨rfl, by rw [ht]; exact hW, hS.F ht⟩) hS.2.2 dX8_addLine_111
        · skip
          refine lv_iload hx hb dX8_addLine_40 (lv_at hl 5 rfl) ?_
          refine lv_iconst (v := nI 0) hx hb dX8_addLine_42 (by decide) ?_
          refine lv_bipush (v := nI 99) hx hb dX8_addLine_43 (by decide) ?_
          refine q_v (va_runS (As := [.int (x4), .int (nI 0), .int (nI 99)]) (rest := []) ⟨hx, hb, hml, hown, hts⟩ (m_rin l x4 (nI 0) (nI 99)) (va_cwS 3 hts gX8_addLine_X8_in rfl rfl rfl (by decide +kernel) ⟨Nat.le_of_ble_eq_true rfl, Nat.le_of_ble_eq_true rfl⟩) ⟨qU.blind, qU.pre⟩ rfl rfl hl.1 rfl (lv_room (Nat.le_of_ble_eq_true rfl)) dX8_addLine_45 ⟨Nat.le_of_ble_eq_true rfl, Nat.le_of_ble_eq_true rfl⟩) hS (fun _ h => h.elim) (fun locs hS => ?_)
          refine q_eq0 (tgt := 66) hx hb q_31B dX8_addLine_48 (by decide) (fun g13 => ?_) (fun g13 => ?_)
          · skip
            refine lv_iconst (v := nI 0) hx hb dX8_addLine_66 (by decide) ?_
            refine lv_istore (lv' := [(7, .int (nI 0)), (0, .ref (bd 0 0)), (1, .int (x0)), (2, .int (x1)), (3, .int (x2)), (4, .int (x3)), (5, .int (x4)), (6, .int (x5))]) hx hb dX8_addLine_67 hl (by decide) rfl (fun ls hl => ?_)
            refine lv_aload_n hx hb dX8_addLine_69 rfl (lv_at hl 1 rfl) ?_
            refine lv_iload hx hb dX8_addLine_70 (lv_at hl 0 rfl) ?_
            refine q_ne0 (tgt := 79) hx hb (by decide) dX8_addLine_72 (by decide) (fun g14 => (by omega)) (fun g14 => ?_)
            refine lv_iconst (v := nI 1) hx hb dX8_addLine_75 (by decide) ?_
            refine lv_goto (tgt := 80) hx hb dX8_addLine_76 (by decide) ?_
            refine lv_iconst (v := nI 1) hx hb dX8_addLine_80 (by decide) ?_
            refine q_wv (va_runV (As := [.int (nI 1), .int (nI 1)]) (rest := []) ⟨hx, hb, hml, hown, hts⟩ (m_rfails1 l G A (rT ρ) bd hF 1 (by decide) (by decide) (rT_0 ρ)) (cwV 2 hts gX8_addLine_X8_fails rfl rfl rfl (by decide +kernel) ⟨Nat.le_of_ble_eq_true rfl, Nat.le_of_ble_eq_true rfl⟩) ⟨rR.blind, qrecv hC (hW.to rLV0) rfl, rR.pre hC hW⟩ rfl rfl hl.1 rfl (lv_room (Nat.le_of_ble_eq_true rfl)) dX8_addLine_81 ⟨Nat.le_of_ble_eq_true rfl, Nat.le_of_ble_eq_true rfl⟩) hS (fun _ h => h) (fun _ h => h) (fun H1 locs hW hz hk hS => ?_)
            refine q_ne0 (tgt := 110) hx hb (by decide) dX8_addLine_84 (by decide) (fun g15 => ?_) (fun g15 => (by omega))
            refine lv_iconst (v := nI 0) hx hb dX8_addLine_110 (by decide) ?_
            exact W.iret hx hb hr (fun t ht _ => ⟨rfl, by rw [ht]; exact hW, hS.F ht⟩) hS.2.2 dX8_addLine_111
          · skip
            refine lv_iload hx hb dX8_addLine_51 (lv_at hl 6 rfl) ?_
            refine lv_iconst (v := nI 1) hx hb dX8_addLine_53 (by decide) ?_
            refine lv_bipush (v := nI 99) hx hb dX8_addLine_54 (by decide) ?_
            refine q_v (va_runS (As := [.int (x5), .int (nI 1), .int (nI 99)]) (rest := []) ⟨hx, hb, hml, hown, hts⟩ (m_rin l x5 (nI 1) (nI 99)) (va_cwS 3 hts gX8_addLine_X8_in rfl rfl rfl (by decide +kernel) ⟨Nat.le_of_ble_eq_true rfl, Nat.le_of_ble_eq_true rfl⟩) ⟨qU.blind, qU.pre⟩ rfl rfl hl.1 rfl (lv_room (Nat.le_of_ble_eq_true rfl)) dX8_addLine_56 ⟨Nat.le_of_ble_eq_true rfl, Nat.le_of_ble_eq_true rfl⟩) hS (fun _ h => h.elim) (fun locs hS => ?_)
            refine q_eq0 (tgt := 66) hx hb q_31B dX8_addLine_59 (by decide) (fun g16 => ?_) (fun g16 => ?_)
            · skip
              refine lv_iconst (v := nI 0) hx hb dX8_addLine_66 (by decide) ?_
              refine lv_istore (lv' := [(7, .int (nI 0)), (0, .ref (bd 0 0)), (1, .int (x0)), (2, .int (x1)), (3, .int (x2)), (4, .int (x3)), (5, .int (x4)), (6, .int (x5))]) hx hb dX8_addLine_67 hl (by decide) rfl (fun ls hl => ?_)
              refine lv_aload_n hx hb dX8_addLine_69 rfl (lv_at hl 1 rfl) ?_
              refine lv_iload hx hb dX8_addLine_70 (lv_at hl 0 rfl) ?_
              refine q_ne0 (tgt := 79) hx hb (by decide) dX8_addLine_72 (by decide) (fun g17 => (by omega)) (fun g17 => ?_)
              refine lv_iconst (v := nI 1) hx hb dX8_addLine_75 (by decide) ?_
              refine lv_goto (tgt := 80) hx hb dX8_addLine_76 (by decide) ?_
              refine lv_iconst (v := nI 1) hx hb dX8_addLine_80 (by decide) ?_
              refine q_wv (va_runV (As := [.int (nI 1), .int (nI 1)]) (rest := []) ⟨hx, hb, hml, hown, hts⟩ (m_rfails1 l G A (rT ρ) bd hF 1 (by decide) (by decide) (rT_0 ρ)) (cwV 2 hts gX8_addLine_X8_fails rfl rfl rfl (by decide +kernel) ⟨Nat.le_of_ble_eq_true rfl, Nat.le_of_ble_eq_true rfl⟩) ⟨rR.blind, qrecv hC (hW.to rLV0) rfl, rR.pre hC hW⟩ rfl rfl hl.1 rfl (lv_room (Nat.le_of_ble_eq_true rfl)) dX8_addLine_81 ⟨Nat.le_of_ble_eq_true rfl, Nat.le_of_ble_eq_true rfl⟩) hS (fun _ h => h) (fun _ h => h) (fun H1 locs hW hz hk hS => ?_)
              refine q_ne0 (tgt := 110) hx hb (by decide) dX8_addLine_84 (by decide) (fun g18 => ?_) (fun g18 => (by omega))
              refine lv_iconst (v := nI 0) hx hb dX8_addLine_110 (by decide) ?_
              exact W.iret hx hb hr (fun t ht _ => ⟨rfl, by rw [ht]; exact hW, hS.F ht⟩) hS.2.2 dX8_addLine_111
            · skip
              refine lv_iconst (v := nI 1) hx hb dX8_addLine_62 (by decide) ?_
              refine lv_goto (tgt := 67) hx hb dX8_addLine_63 (by decide) ?_
              refine lv_istore (lv' := [(7, .int (nI 1)), (0, .ref (bd 0 0)), (1, .int (x0)), (2, .int (x1)), (3, .int (x2)), (4, .int (x3)), (5, .int (x4)), (6, .int (x5))]) hx hb dX8_addLine_67 hl (by decide) rfl (fun ls hl => ?_)
              refine lv_aload_n hx hb dX8_addLine_69 rfl (lv_at hl 1 rfl) ?_
              refine lv_iload hx hb dX8_addLine_70 (lv_at hl 0 rfl) ?_
              refine q_ne0 (tgt := 79) hx hb (by decide) dX8_addLine_72 (by decide) (fun g19 => ?_) (fun g19 => (by omega))
              refine lv_iconst (v := nI 0) hx hb dX8_addLine_79 (by decide) ?_
              refine lv_iconst (v := nI 1) hx hb dX8_addLine_80 (by decide) ?_
              exact absurd ⟨r_un g1, r_un g4, r_un g7, r_un g10, r_un g13, r_un g16⟩ hbad
set_option maxHeartbeats 4000000 in
set_option maxRecDepth 100000 in
theorem x_raddLine2 (l : Launch) (G : QG) (A : Nat → Prop) (ρ bd : QSt) (hF : rWF (rT ρ)) (s0 r0 y1 y2 y3 b0 : Nat) (hs0 : s0 < 4) (hr0 : r0 < 5) (hy1 : y1 < 100) (hy2 : y2 < 100) (hy3 : y3 < 100) (hb0 : 1 ≤ b0 ∧ b0 ≤ 99) (hn0 : (rT ρ) 0 0 = 200) : Met l yX8_addLine wsX8_addLine ({ frames := 2, cells := 0, slots := 0, locals := 42 } : Room) (rR G A ρ bd [.ref (bd 0 0), .int (nI s0), .int (nI r0), .int (nI y1), .int (nI y2), .int (nI y3), .int (nI b0)]) (qWV (some (.int (nI 0))) (rW G A (qup (rT ρ) 2 0 2) bd) A) 0 0 A := by
  refine Met.ofW (cc := cX8_addLine) (maxL := 10) (ret := (some .int)) (by decide) rfl ?_
  intro p e s m args below meth c s₁ B hml hv
  obtain ⟨rfl, hC, hW⟩ := hv
  have hx := B.exec
  have hb := B.bytes
  have hr := B.returns
  have hts := atoms_spec (ws := wsX8_addLine) B.pre
  have hown : s.vm.findClass RX8 = some m.cls := findClass_of_methodNamed B.named
  have hlocks := B.notSynchronized
  have hB := hF.1
  have hn := hF.n
  have hS : va_S A s.heap s.heap [] := va_S.rf
  have hl := lv_entry ([.ref (bd 0 0), .int (nI s0), .int (nI r0), .int (nI y1), .int (nI y2), .int (nI y3), .int (nI b0)]) (n := 10) (Nat.le_of_ble_eq_true rfl)
  rw [lg_entry_eq]
  generalize (lg_sl ([.ref (bd 0 0), .int (nI s0), .int (nI r0), .int (nI y1), .int (nI y2), .int (nI y3), .int (nI b0)]) ++ List.replicate (10 - (lg_sl ([.ref (bd 0 0), .int (nI s0), .int (nI r0), .int (nI y1), .int (nI y2), .int (nI y3), .int (nI b0)])).length) Slot.unset).toArray = ls at hl ⊢
  have hl : lv_has ls 10 [(0, .ref (bd 0 0)), (1, .int (nI s0)), (2, .int (nI r0)), (3, .int (nI y1)), (4, .int (nI y2)), (5, .int (nI y3)), (6, .int (nI b0))] := hl
  have iRX8 : ∀ w ∈ wsX80, w ∈ wsX8_addLine := by decide +kernel
  refine lv_aload_n hx hb dX8_addLine_0 rfl (lv_at hl 0 rfl) ?_
  refine lv_iconst (v := nI 0) hx hb dX8_addLine_1 (by decide) ?_
  refine q_put (C := RX8) (T := TX8) (N := 36) (ty := .int) (v := .int (nI 0)) hx hb hts iRX8 tyX8 tyX8_ok nmX8 hown hC.1 (hW.to rLV0) (hW.in rLV0) hS rfl 0 (by decide) (hts (.fieldLink RX8 100 "LogWeaveModel" "thrown" "I") (List.mem_of_getElem? (i := 1) (by decide +kernel))) rfl rfl (by decide +kernel) rfl rfl (Nat.le_of_ble_eq_true rfl) dX8_addLine_2 (fun H1 locs hat hsz hoq hS => ?_)
  have hW := hW.upR 2 0 0 rfl rLV0 ((rLV0 (ρ := (qup ρ 2 0 0))).trans (by rw [qup_s]; rfl)) hat hoq
  have hW : rW G A (rT ρ) bd _ := hW
  refine lv_iload_n hx hb dX8_addLine_5 rfl (lv_at hl 1 rfl) ?_
  refine q_v (va_runS (As := [.int (nI s0)]) (rest := []) ⟨hx, hb, hml, hown, hts⟩ (m_risSource l (nI s0)) (va_cwS 1 hts gX8_addLine_X8_isSource rfl rfl rfl (by decide +kernel) ⟨Nat.le_of_ble_eq_true rfl, Nat.le_of_ble_eq_true rfl⟩) ⟨qU.blind, qU.pre⟩ rfl rfl hl.1 rfl (lv_room (Nat.le_of_ble_eq_true rfl)) dX8_addLine_6 ⟨Nat.le_of_ble_eq_true rfl, Nat.le_of_ble_eq_true rfl⟩) hS (fun _ h => h.elim) (fun locs hS => ?_)
  refine q_ti (y := nI 1) (by rw [qB_t ⟨nI_le (by omega) (by omega), nI_le (by omega) (by decide)⟩]) ?_
  refine q_eq0 (tgt := 66) hx hb (by decide) dX8_addLine_9 (by decide) (fun g1 => (by omega)) (fun g1 => ?_)
  refine lv_iload_n hx hb dX8_addLine_12 rfl (lv_at hl 2 rfl) ?_
  refine q_v (va_runS (As := [.int (nI r0)]) (rest := []) ⟨hx, hb, hml, hown, hts⟩ (m_risRank l (nI r0)) (va_cwS 1 hts gX8_addLine_X8_isRank rfl rfl rfl (by decide +kernel) ⟨Nat.le_of_ble_eq_true rfl, Nat.le_of_ble_eq_true rfl⟩) ⟨qU.blind, qU.pre⟩ rfl rfl hl.1 rfl (lv_room (Nat.le_of_ble_eq_true rfl)) dX8_addLine_13 ⟨Nat.le_of_ble_eq_true rfl, Nat.le_of_ble_eq_true rfl⟩) hS (fun _ h => h.elim) (fun locs hS => ?_)
  refine q_ti (y := nI 1) (by rw [qB_t ⟨nI_le (by omega) (by omega), nI_le (by omega) (by decide)⟩]) ?_
  refine q_eq0 (tgt := 66) hx hb (by decide) dX8_addLine_16 (by decide) (fun g2 => (by omega)) (fun g2 => ?_)
  refine lv_iload_n hx hb dX8_addLine_19 rfl (lv_at hl 3 rfl) ?_
  refine lv_iconst (v := nI 0) hx hb dX8_addLine_20 (by decide) ?_
  refine lv_bipush (v := nI 99) hx hb dX8_addLine_21 (by decide) ?_
  refine q_v (va_runS (As := [.int (nI y1), .int (nI 0), .int (nI 99)]) (rest := []) ⟨hx, hb, hml, hown, hts⟩ (m_rin l (nI y1) (nI 0) (nI 99)) (va_cwS 3 hts gX8_addLine_X8_in rfl rfl rfl (by decide +kernel) ⟨Nat.le_of_ble_eq_true rfl, Nat.le_of_ble_eq_true rfl⟩) ⟨qU.blind, qU.pre⟩ rfl rfl hl.1 rfl (lv_room (Nat.le_of_ble_eq_true rfl)) dX8_addLine_23 ⟨Nat.le_of_ble_eq_true rfl, Nat.le_of_ble_eq_true rfl⟩) hS (fun _ h => h.elim) (fun locs hS => ?_)
  refine q_ti (y := nI 1) (by rw [qB_t ⟨nI_le (by omega) (by omega), nI_le (by omega) (by decide)⟩]) ?_
  refine q_eq0 (tgt := 66) hx hb (by decide) dX8_addLine_26 (by decide) (fun g3 => (by omega)) (fun g3 => ?_)
  refine lv_iload hx hb dX8_addLine_29 (lv_at hl 4 rfl) ?_
  refine lv_iconst (v := nI 0) hx hb dX8_addLine_31 (by decide) ?_
  refine lv_bipush (v := nI 99) hx hb dX8_addLine_32 (by decide) ?_
  refine q_v (va_runS (As := [.int (nI y2), .int (nI 0), .int (nI 99)]) (rest := []) ⟨hx, hb, hml, hown, hts⟩ (m_rin l (nI y2) (nI 0) (nI 99)) (va_cwS 3 hts gX8_addLine_X8_in rfl rfl rfl (by decide +kernel) ⟨Nat.le_of_ble_eq_true rfl, Nat.le_of_ble_eq_true rfl⟩) ⟨qU.blind, qU.pre⟩ rfl rfl hl.1 rfl (lv_room (Nat.le_of_ble_eq_true rfl)) dX8_addLine_34 ⟨Nat.le_of_ble_eq_true rfl, Nat.le_of_ble_eq_true rfl⟩) hS (fun _ h => h.elim) (fun locs hS => ?_)
  refine q_ti (y := nI 1) (by rw [qB_t ⟨nI_le (by omega) (by omega), nI_le (by omega) (by decide)⟩]) ?_
  refine q_eq0 (tgt := 66) hx hb (by decide) dX8_addLine_37 (by decide) (fun g4 => (by omega)) (fun g4 => ?_)
  refine lv_iload hx hb dX8_addLine_40 (lv_at hl 5 rfl) ?_
  refine lv_iconst (v := nI 0) hx hb dX8_addLine_42 (by decide) ?_
  refine lv_bipush (v := nI 99) hx hb dX8_addLine_43 (by decide) ?_
  refine q_v (va_runS (As := [.int (nI y3), .int (nI 0), .int (nI 99)]) (rest := []) ⟨hx, hb, hml, hown, hts⟩ (m_rin l (nI y3) (nI 0) (nI 99)) (va_cwS 3 hts gX8_addLine_X8_in rfl rfl rfl (by decide +kernel) ⟨Nat.le_of_ble_eq_true rfl, Nat.le_of_ble_eq_true rfl⟩) ⟨qU.blind, qU.pre⟩ rfl rfl hl.1 rfl (lv_room (Nat.le_of_ble_eq_true rfl)) dX8_addLine_45 ⟨Nat.le_of_ble_eq_true rfl, Nat.le_of_ble_eq_true rfl⟩) hS (fun _ h => h.elim) (fun locs hS => ?_)
  refine q_ti (y := nI 1) (by rw [qB_t ⟨nI_le (by omega) (by omega), nI_le (by omega) (by decide)⟩]) ?_
  refine q_eq0 (tgt := 66) hx hb (by decide) dX8_addLine_48 (by decide) (fun g5 => (by omega)) (fun g5 => ?_)
  refine lv_iload hx hb dX8_addLine_51 (lv_at hl 6 rfl) ?_
  refine lv_iconst (v := nI 1) hx hb dX8_addLine_53 (by decide) ?_
  refine lv_bipush (v := nI 99) hx hb dX8_addLine_54 (by decide) ?_
  refine q_v (va_runS (As := [.int (nI b0), .int (nI 1), .int (nI 99)]) (rest := []) ⟨hx, hb, hml, hown, hts⟩ (m_rin l (nI b0) (nI 1) (nI 99)) (va_cwS 3 hts gX8_addLine_X8_in rfl rfl rfl (by decide +kernel) ⟨Nat.le_of_ble_eq_true rfl, Nat.le_of_ble_eq_true rfl⟩) ⟨qU.blind, qU.pre⟩ rfl rfl hl.1 rfl (lv_room (Nat.le_of_ble_eq_true rfl)) dX8_addLine_56 ⟨Nat.le_of_ble_eq_true rfl, Nat.le_of_ble_eq_true rfl⟩) hS (fun _ h => h.elim) (fun locs hS => ?_)
  refine q_ti (y := nI 1) (by rw [qB_t ⟨nI_le (by omega) (by omega), nI_le (by omega) (by decide)⟩]) ?_
  refine q_eq0 (tgt := 66) hx hb (by decide) dX8_addLine_59 (by decide) (fun g6 => (by omega)) (fun g6 => ?_)
  refine lv_iconst (v := nI 1) hx hb dX8_addLine_62 (by decide) ?_
  refine lv_goto (tgt := 67) hx hb dX8_addLine_63 (by decide) ?_
  refine lv_istore (lv' := [(7, .int (nI 1)), (0, .ref (bd 0 0)), (1, .int (nI s0)), (2, .int (nI r0)), (3, .int (nI y1)), (4, .int (nI y2)), (5, .int (nI y3)), (6, .int (nI b0))]) hx hb dX8_addLine_67 hl (by decide) rfl (fun ls hl => ?_)
  refine lv_aload_n hx hb dX8_addLine_69 rfl (lv_at hl 1 rfl) ?_
  refine lv_iload hx hb dX8_addLine_70 (lv_at hl 0 rfl) ?_
  refine q_ne0 (tgt := 79) hx hb (by decide) dX8_addLine_72 (by decide) (fun g7 => ?_) (fun g7 => (by omega))
  refine lv_iconst (v := nI 0) hx hb dX8_addLine_79 (by decide) ?_
  refine lv_iconst (v := nI 1) hx hb dX8_addLine_80 (by decide) ?_
  refine q_v (va_runV (As := [.int (nI 0), .int (nI 1)]) (rest := []) ⟨hx, hb, hml, hown, hts⟩ (m_rfails0 l G A (rT ρ) bd hF 1 (rT_0 ρ)) (cwV 2 hts gX8_addLine_X8_fails rfl rfl rfl (by decide +kernel) ⟨Nat.le_of_ble_eq_true rfl, Nat.le_of_ble_eq_true rfl⟩) ⟨rR.blind, qrecv hC (hW.to rLV0) rfl, rR.pre hC hW⟩ rfl rfl hl.1 rfl (lv_room (Nat.le_of_ble_eq_true rfl)) dX8_addLine_81 ⟨Nat.le_of_ble_eq_true rfl, Nat.le_of_ble_eq_true rfl⟩) hS (fun _ h => h.elim) (fun locs hS => ?_)
  refine q_ne0 (tgt := 110) hx hb (by decide) dX8_addLine_84 (by decide) (fun g8 => (by omega)) (fun g8 => ?_)
  refine lv_aload_n hx hb dX8_addLine_87 rfl (lv_at hl 1 rfl) ?_
  refine lv_aload_n hx hb dX8_addLine_88 rfl (lv_at hl 1 rfl) ?_
  refine q_get (C := RX8) (T := TX8) (N := 36) hx hb hts iRX8 hown hC.1 (hW.to rLV0) rfl 2 (by decide) (hts (.fieldLink RX8 104 "LogWeaveModel" "lines" "I") (List.mem_of_getElem? (i := 2) (by decide +kernel))) rfl (v := .int (nI ((rT ρ) 0 0))) rfl dX8_addLine_89 ?_
  refine lv_sipush (v := nI 200) hx hb dX8_addLine_92 (by decide) ?_
  refine q_ne (tgt := 102) hx hb (q31 (hB _ _)) (by decide) dX8_addLine_95 (by decide) (fun g9 => ?_) (fun g9 => ?_)
  · skip
    refine lv_iconst (v := nI 0) hx hb dX8_addLine_102 (by decide) ?_
    refine lv_iconst (v := nI 2) hx hb dX8_addLine_103 (by decide) ?_
    omega
  · skip
    refine lv_iconst (v := nI 1) hx hb dX8_addLine_98 (by decide) ?_
    refine lv_goto (tgt := 103) hx hb dX8_addLine_99 (by decide) ?_
    refine lv_iconst (v := nI 2) hx hb dX8_addLine_103 (by decide) ?_
    refine q_wv (va_runV (As := [.int (nI 1), .int (nI 2)]) (rest := []) ⟨hx, hb, hml, hown, hts⟩ (m_rfails1 l G A (rT ρ) bd hF 2 (by decide) (by decide) (rT_0 ρ)) (cwV 2 hts gX8_addLine_X8_fails rfl rfl rfl (by decide +kernel) ⟨Nat.le_of_ble_eq_true rfl, Nat.le_of_ble_eq_true rfl⟩) ⟨rR.blind, qrecv hC (hW.to rLV0) rfl, rR.pre hC hW⟩ rfl rfl hl.1 rfl (lv_room (Nat.le_of_ble_eq_true rfl)) dX8_addLine_104 ⟨Nat.le_of_ble_eq_true rfl, Nat.le_of_ble_eq_true rfl⟩) hS (fun _ h => h) (fun _ h => h) (fun H1 locs hW hz hk hS => ?_)
    refine q_eq0 (tgt := 112) hx hb (by decide) dX8_addLine_107 (by decide) (fun g10 => (by omega)) (fun g10 => ?_)
    refine lv_iconst (v := nI 0) hx hb dX8_addLine_110 (by decide) ?_
    exact W.iret hx hb hr (fun t ht _ => ⟨rfl, by rw [ht]; exact hW, hS.F ht⟩) hS.2.2 dX8_addLine_111
set_option maxHeartbeats 4000000 in
set_option maxRecDepth 100000 in
theorem x_raddAlert1 (l : Launch) (G : QG) (A : Nat → Prop) (ρ bd : QSt) (hF : rWF (rT ρ)) (x0 x1 x2 x3 x4 x5 x6 : Int32) (hbad : ¬ ((nI 0 ≤ x0 ∧ x0 ≤ nI 3) ∧ (nI 0 ≤ x1 ∧ x1 ≤ nI 4) ∧ (-1 ≤ x2 ∧ x2 ≤ nI 2) ∧ (nI 0 ≤ x3 ∧ x3 ≤ nI 99) ∧ (nI 1 ≤ x4 ∧ x4 ≤ nI 9) ∧ (nI 1 ≤ x5 ∧ x5 ≤ nI 50) ∧ (nI 0 ≤ x6 ∧ x6 ≤ nI 20))) : Met l yX8_addAlert wsX8_addAlert ({ frames := 2, cells := 0, slots := 0, locals := 42 } : Room) (rR G A ρ bd [.ref (bd 0 0), .int (x0), .int (x1), .int (x2), .int (x3), .int (x4), .int (x5), .int (x6)]) (qWV (some (.int (nI 0))) (rW G A (qup (rT ρ) 2 0 1) bd) A) 0 0 A := by
  refine Met.ofW (cc := cX8_addAlert) (maxL := 10) (ret := (some .int)) (by decide) rfl ?_
  intro p e s m args below meth c s₁ B hml hv
  obtain ⟨rfl, hC, hW⟩ := hv
  have hx := B.exec
  have hb := B.bytes
  have hr := B.returns
  have hts := atoms_spec (ws := wsX8_addAlert) B.pre
  have hown : s.vm.findClass RX8 = some m.cls := findClass_of_methodNamed B.named
  have hlocks := B.notSynchronized
  have hB := hF.1
  have hn := hF.n
  have hS : va_S A s.heap s.heap [] := va_S.rf
  have hl := lv_entry ([.ref (bd 0 0), .int (x0), .int (x1), .int (x2), .int (x3), .int (x4), .int (x5), .int (x6)]) (n := 10) (Nat.le_of_ble_eq_true rfl)
  rw [lg_entry_eq]
  generalize (lg_sl ([.ref (bd 0 0), .int (x0), .int (x1), .int (x2), .int (x3), .int (x4), .int (x5), .int (x6)]) ++ List.replicate (10 - (lg_sl ([.ref (bd 0 0), .int (x0), .int (x1), .int (x2), .int (x3), .int (x4), .int (x5), .int (x6)])).length) Slot.unset).toArray = ls at hl ⊢
  have hl : lv_has ls 10 [(0, .ref (bd 0 0)), (1, .int (x0)), (2, .int (x1)), (3, .int (x2)), (4, .int (x3)), (5, .int (x4)), (6, .int (x5)), (7, .int (x6))] := hl
  have iRX8 : ∀ w ∈ wsX80, w ∈ wsX8_addAlert := by decide +kernel
  refine lv_aload_n hx hb dX8_addAlert_0 rfl (lv_at hl 0 rfl) ?_
  refine lv_iconst (v := nI 0) hx hb dX8_addAlert_1 (by decide) ?_
  refine q_put (C := RX8) (T := TX8) (N := 36) (ty := .int) (v := .int (nI 0)) hx hb hts iRX8 tyX8 tyX8_ok nmX8 hown hC.1 (hW.to rLV0) (hW.in rLV0) hS rfl 0 (by decide) (hts (.fieldLink RX8 100 "LogWeaveModel" "thrown" "I") (List.mem_of_getElem? (i := 1) (by decide +kernel))) rfl rfl (by decide +kernel) rfl rfl (Nat.le_of_ble_eq_true rfl) dX8_addAlert_2 (fun H1 locs hat hsz hoq hS => ?_)
  have hW := hW.upR 2 0 0 rfl rLV0 ((rLV0 (ρ := (qup ρ 2 0 0))).trans (by rw [qup_s]; rfl)) hat hoq
  have hW : rW G A (rT ρ) bd _ := hW
  refine lv_iload_n hx hb dX8_addAlert_5 rfl (lv_at hl 1 rfl) ?_
  refine q_v (va_runS (As := [.int (x0)]) (rest := []) ⟨hx, hb, hml, hown, hts⟩ (m_risSource l x0) (va_cwS 1 hts gX8_addAlert_X8_isSource rfl rfl rfl (by decide +kernel) ⟨Nat.le_of_ble_eq_true rfl, Nat.le_of_ble_eq_true rfl⟩) ⟨qU.blind, qU.pre⟩ rfl rfl hl.1 rfl (lv_room (Nat.le_of_ble_eq_true rfl)) dX8_addAlert_6 ⟨Nat.le_of_ble_eq_true rfl, Nat.le_of_ble_eq_true rfl⟩) hS (fun _ h => h.elim) (fun locs hS => ?_)
  refine q_eq0 (tgt := 76) hx hb q_31B dX8_addAlert_9 (by decide) (fun g1 => ?_) (fun g1 => ?_)
  · skip
    refine lv_iconst (v := nI 0) hx hb dX8_addAlert_76 (by decide) ?_
    refine lv_istore (lv' := [(8, .int (nI 0)), (0, .ref (bd 0 0)), (1, .int (x0)), (2, .int (x1)), (3, .int (x2)), (4, .int (x3)), (5, .int (x4)), (6, .int (x5)), (7, .int (x6))]) hx hb dX8_addAlert_77 hl (by decide) rfl (fun ls hl => ?_)
    refine lv_aload_n hx hb dX8_addAlert_79 rfl (lv_at hl 1 rfl) ?_
    refine lv_iload hx hb dX8_addAlert_80 (lv_at hl 0 rfl) ?_
    refine q_ne0 (tgt := 89) hx hb (by decide) dX8_addAlert_82 (by decide) (fun g2 => (by omega)) (fun g2 => ?_)
    refine lv_iconst (v := nI 1) hx hb dX8_addAlert_85 (by decide) ?_
    refine lv_goto (tgt := 90) hx hb dX8_addAlert_86 (by decide) ?_
    refine lv_iconst (v := nI 1) hx hb dX8_addAlert_90 (by decide) ?_
    refine q_wv (va_runV (As := [.int (nI 1), .int (nI 1)]) (rest := []) ⟨hx, hb, hml, hown, hts⟩ (m_rfails1 l G A (rT ρ) bd hF 1 (by decide) (by decide) (rT_0 ρ)) (cwV 2 hts gX8_addAlert_X8_fails rfl rfl rfl (by decide +kernel) ⟨Nat.le_of_ble_eq_true rfl, Nat.le_of_ble_eq_true rfl⟩) ⟨rR.blind, qrecv hC (hW.to rLV0) rfl, rR.pre hC hW⟩ rfl rfl hl.1 rfl (lv_room (Nat.le_of_ble_eq_true rfl)) dX8_addAlert_91 ⟨Nat.le_of_ble_eq_true rfl, Nat.le_of_ble_eq_true rfl⟩) hS (fun _ h => h) (fun _ h => h) (fun H1 locs hW hz hk hS => ?_)
    refine q_ne0 (tgt := 119) hx hb (by decide) dX8_addAlert_94 (by decide) (fun g3 => ?_) (fun g3 => (by omega))
    refine lv_iconst (v := nI 0) hx hb dX8_addAlert_119 (by decide) ?_
    exact W.iret hx hb hr (fun t ht _ => ⟨rfl, by rw [ht]; exact hW, hS.F ht⟩) hS.2.2 dX8_addAlert_120
  · skip
    refine lv_iload_n hx hb dX8_addAlert_12 rfl (lv_at hl 2 rfl) ?_
    refine q_v (va_runS (As := [.int (x1)]) (rest := []) ⟨hx, hb, hml, hown, hts⟩ (m_risRank l x1) (va_cwS 1 hts gX8_addAlert_X8_isRank rfl rfl rfl (by decide +kernel) ⟨Nat.le_of_ble_eq_true rfl, Nat.le_of_ble_eq_true rfl⟩) ⟨qU.blind, qU.pre⟩ rfl rfl hl.1 rfl (lv_room (Nat.le_of_ble_eq_true rfl)) dX8_addAlert_13 ⟨Nat.le_of_ble_eq_true rfl, Nat.le_of_ble_eq_true rfl⟩) hS (fun _ h => h.elim) (fun locs hS => ?_)
    refine q_eq0 (tgt := 76) hx hb q_31B dX8_addAlert_16 (by decide) (fun g4 => ?_) (fun g4 => ?_)
    · skip
      refine lv_iconst (v := nI 0) hx hb dX8_addAlert_76 (by decide) ?_
      refine lv_istore (lv' := [(8, .int (nI 0)), (0, .ref (bd 0 0)), (1, .int (x0)), (2, .int (x1)), (3, .int (x2)), (4, .int (x3)), (5, .int (x4)), (6, .int (x5)), (7, .int (x6))]) hx hb dX8_addAlert_77 hl (by decide) rfl (fun ls hl => ?_)
      refine lv_aload_n hx hb dX8_addAlert_79 rfl (lv_at hl 1 rfl) ?_
      refine lv_iload hx hb dX8_addAlert_80 (lv_at hl 0 rfl) ?_
      refine q_ne0 (tgt := 89) hx hb (by decide) dX8_addAlert_82 (by decide) (fun g5 => (by omega)) (fun g5 => ?_)
      refine lv_iconst (v := nI 1) hx hb dX8_addAlert_85 (by decide) ?_
      refine lv_goto (tgt := 90) hx hb dX8_addAlert_86 (by decide) ?_
      refine lv_iconst (v := nI 1) hx hb dX8_addAlert_90 (by decide) ?_
      refine q_wv (va_runV (As := [.int (nI 1), .int (nI 1)]) (rest := []) ⟨hx, hb, hml, hown, hts⟩ (m_rfails1 l G A (rT ρ) bd hF 1 (by decide) (by decide) (rT_0 ρ)) (cwV 2 hts gX8_addAlert_X8_fails rfl rfl rfl (by decide +kernel) ⟨Nat.le_of_ble_eq_true rfl, Nat.le_of_ble_eq_true rfl⟩) ⟨rR.blind, qrecv hC (hW.to rLV0) rfl, rR.pre hC hW⟩ rfl rfl hl.1 rfl (lv_room (Nat.le_of_ble_eq_true rfl)) dX8_addAlert_91 ⟨Nat.le_of_ble_eq_true rfl, Nat.le_of_ble_eq_true rfl⟩) hS (fun _ h => h) (fun _ h => h) (fun H1 locs hW hz hk hS => ?_)
      refine q_ne0 (tgt := 119) hx hb (by decide) dX8_addAlert_94 (by decide) (fun g6 => ?_) (fun g6 => (by omega))
      refine lv_iconst (v := nI 0) hx hb dX8_addAlert_119 (by decide) ?_
      exact W.iret hx hb hr (fun t ht _ => ⟨rfl, by rw [ht]; exact hW, hS.F ht⟩) hS.2.2 dX8_addAlert_120
    · skip
      refine lv_iload_n hx hb dX8_addAlert_19 rfl (lv_at hl 3 rfl) ?_
      refine lv_iconst (v := -1) hx hb dX8_addAlert_20 (by decide) ?_
      refine lv_iconst (v := nI 2) hx hb dX8_addAlert_21 (by decide) ?_
      refine q_v (va_runS (As := [.int (x2), .int (-1), .int (nI 2)]) (rest := []) ⟨hx, hb, hml, hown, hts⟩ (m_rin l x2 (-1) (nI 2)) (va_cwS 3 hts gX8_addAlert_X8_in rfl rfl rfl (by decide +kernel) ⟨Nat.le_of_ble_eq_true rfl, Nat.le_of_ble_eq_true rfl⟩) ⟨qU.blind, qU.pre⟩ rfl rfl hl.1 rfl (lv_room (Nat.le_of_ble_eq_true rfl)) dX8_addAlert_22 ⟨Nat.le_of_ble_eq_true rfl, Nat.le_of_ble_eq_true rfl⟩) hS (fun _ h => h.elim) (fun locs hS => ?_)
      refine q_eq0 (tgt := 76) hx hb q_31B dX8_addAlert_25 (by decide) (fun g7 => ?_) (fun g7 => ?_)
      · skip
        refine lv_iconst (v := nI 0) hx hb dX8_addAlert_76 (by decide) ?_
        refine lv_istore (lv' := [(8, .int (nI 0)), (0, .ref (bd 0 0)), (1, .int (x0)), (2, .int (x1)), (3, .int (x2)), (4, .int (x3)), (5, .int (x4)), (6, .int (x5)), (7, .int (x6))]) hx hb dX8_addAlert_77 hl (by decide) rfl (fun ls hl => ?_)
        refine lv_aload_n hx hb dX8_addAlert_79 rfl (lv_at hl 1 rfl) ?_
        refine lv_iload hx hb dX8_addAlert_80 (lv_at hl 0 rfl) ?_
        refine q_ne0 (tgt := 89) hx hb (by decide) dX8_addAlert_82 (by decide) (fun g8 => (by omega)) (fun g8 => ?_)
        refine lv_iconst (v := nI 1) hx hb dX8_addAlert_85 (by decide) ?_
        refine lv_goto (tgt := 90) hx hb dX8_addAlert_86 (by decide) ?_
        refine lv_iconst (v := nI 1) hx hb dX8_addAlert_90 (by decide) ?_
        refine q_wv (va_runV (As := [.int (nI 1), .int (nI 1)]) (rest := []) ⟨hx, hb, hml, hown, hts⟩ (m_rfails1 l G A (rT ρ) bd hF 1 (by decide) (by decide) (rT_0 ρ)) (cwV 2 hts gX8_addAlert_X8_fails rfl rfl rfl (by decide +kernel) ⟨Nat.le_of_ble_eq_true rfl, Nat.le_of_ble_eq_true rfl⟩) ⟨rR.blind, qrecv hC (hW.to rLV0) rfl, rR.pre hC hW⟩ rfl rfl hl.1 rfl (lv_room (Nat.le_of_ble_eq_true rfl)) dX8_addAlert_91 ⟨Nat.le_of_ble_eq_true rfl, Nat.le_of_ble_eq_true rfl⟩) hS (fun _ h => h) (fun _ h => h) (fun H1 locs hW hz hk hS => ?_)
        refine q_ne0 (tgt := 119) hx hb (by decide) dX8_addAlert_94 (by decide) (fun g9 => ?_) (fun g9 => (by omega))
        refine lv_iconst (v := nI 0) hx hb dX8_addAlert_119 (by decide) ?_
        exact W.iret hx hb hr (fun t ht _ => ⟨rfl, by rw [ht]; exact hW, hS.F ht⟩) hS.2.2 dX8_addAlert_120
      · skip
        refine lv_iload hx hb dX8_addAlert_28 (lv_at hl 4 rfl) ?_
        refine lv_iconst (v := nI 0) hx hb dX8_addAlert_30 (by decide) ?_
        refine lv_bipush (v := nI 99) hx hb dX8_addAlert_31 (by decide) ?_
        refine q_v (va_runS (As := [.int (x3), .int (nI 0), .int (nI 99)]) (rest := []) ⟨hx, hb, hml, hown, hts⟩ (m_rin l x3 (nI 0) (nI 99)) (va_cwS 3 hts gX8_addAlert_X8_in rfl rfl rfl (by decide +kernel) ⟨Nat.le_of_ble_eq_true rfl, Nat.le_of_ble_eq_true rfl⟩) ⟨qU.blind, qU.pre⟩ rfl rfl hl.1 rfl (lv_room (Nat.le_of_ble_eq_true rfl)) dX8_addAlert_33 ⟨Nat.le_of_ble_eq_true rfl, Nat.le_of_ble_eq_true rfl⟩) hS (fun _ h => h.elim) (fun locs hS => ?_)
        refine q_eq0 (tgt := 76) hx hb q_31B dX8_addAlert_36 (by decide) (fun g10 => ?_) (fun g10 => ?_)
        · skip
          refine lv_iconst (v := nI 0) hx hb dX8_addAlert_76 (by decide) ?_
          refine lv_istore (lv' := [(8, .int (nI 0)), (0, .ref (bd 0 0)), (1, .int (x0)), (2, .int (x1)), (3, .int (x2)), (4, .int (x3)), (5, .int (x4)), (6, .int (x5)), (7, .int (x6))]) hx hb dX8_addAlert_77 hl (by decide) rfl (fun ls hl => ?_)
          refine lv_aload_n hx hb dX8_addAlert_79 rfl (lv_at hl 1 rfl) ?_
          refine lv_iload hx hb dX8_addAlert_80 (lv_at hl 0 rfl) ?_
          refine q_ne0 (tgt := 89) hx hb (by decide) dX8_addAlert_82 (by decide) (fun g11 => (by omega)) (fun g11 => ?_)
          refine lv_iconst (v := nI 1) hx hb dX8_addAlert_85 (by decide) ?_
          refine lv_goto (tgt := 90) hx hb dX8_addAlert_86 (by decide) ?_
          refine lv_iconst (v := nI 1) hx hb dX8_addAlert_90 (by decide) ?_
          refine q_wv (va_runV (As := [.int (nI 1), .int (nI 1)]) (rest := []) ⟨hx, hb, hml, hown, hts⟩ (m_rfails1 l G A (rT ρ) bd hF 1 (by decide) (by decide) (rT_0 ρ)) (cwV 2 hts gX8_addAlert_X8_fails rfl rfl rfl (by decide +kernel) ⟨Nat.le_of_ble_eq_true rfl, Nat.le_of_ble_eq_true rfl⟩) ⟨rR.blind, qrecv hC (hW.to rLV0) rfl, rR.pre hC hW⟩ rfl rfl hl.1 rfl (lv_room (Nat.le_of_ble_eq_true rfl)) dX8_addAlert_91 ⟨Nat.le_of_ble_eq_true rfl, Nat.le_of_ble_eq_true rfl⟩) hS (fun _ h => h) (fun _ h => h) (fun H1 locs hW hz hk hS => ?_)
          refine q_ne0 (tgt := 119) hx hb (by decide) dX8_addAlert_94 (by decide) (fun g12 => ?_) (fun g12 => (by omega))
          refine lv_iconst (v := nI 0) hx hb dX8_addAlert_119 (by decide) ?_
          exact W.iret hx hb hr (fun t ht _ => ⟨rfl, by rw [ht]; exact hW, hS.F ht⟩) hS.2.2 dX8_addAlert_120
        · skip
          refine lv_iload hx hb dX8_addAlert_39 (lv_at hl 5 rfl) ?_
          refine lv_iconst (v := nI 1) hx hb dX8_addAlert_41 (by decide) ?_
          refine lv_bipush (v := nI 9) hx hb dX8_addAlert_42 (by decide) ?_
          refine q_v (va_runS (As := [.int (x4), .int (nI 1), .int (nI 9)]) (rest := []) ⟨hx, hb, hml, hown, hts⟩ (m_rin l x4 (nI 1) (nI 9)) (va_cwS 3 hts gX8_addAlert_X8_in rfl rfl rfl (by decide +kernel) ⟨Nat.le_of_ble_eq_true rfl, Nat.le_of_ble_eq_true rfl⟩) ⟨qU.blind, qU.pre⟩ rfl rfl hl.1 rfl (lv_room (Nat.le_of_ble_eq_true rfl)) dX8_addAlert_44 ⟨Nat.le_of_ble_eq_true rfl, Nat.le_of_ble_eq_true rfl⟩) hS (fun _ h => h.elim) (fun locs hS => ?_)
          refine q_eq0 (tgt := 76) hx hb q_31B dX8_addAlert_47 (by decide) (fun g13 => ?_) (fun g13 => ?_)
          · skip
            refine lv_iconst (v := nI 0) hx hb dX8_addAlert_76 (by decide) ?_
            refine lv_istore (lv' := [(8, .int (nI 0)), (0, .ref (bd 0 0)), (1, .int (x0)), (2, .int (x1)), (3, .int (x2)), (4, .int (x3)), (5, .int (x4)), (6, .int (x5)), (7, .int (x6))]) hx hb dX8_addAlert_77 hl (by decide) rfl (fun ls hl => ?_)
            refine lv_aload_n hx hb dX8_addAlert_79 rfl (lv_at hl 1 rfl) ?_
            refine lv_iload hx hb dX8_addAlert_80 (lv_at hl 0 rfl) ?_
            refine q_ne0 (tgt := 89) hx hb (by decide) dX8_addAlert_82 (by decide) (fun g14 => (by omega)) (fun g14 => ?_)
            refine lv_iconst (v := nI 1) hx hb dX8_addAlert_85 (by decide) ?_
            refine lv_goto (tgt := 90) hx hb dX8_addAlert_86 (by decide) ?_
            refine lv_iconst (v := nI 1) hx hb dX8_addAlert_90 (by decide) ?_
            refine q_wv (va_runV (As := [.int (nI 1), .int (nI 1)]) (rest := []) ⟨hx, hb, hml, hown, hts⟩ (m_rfails1 l G A (rT ρ) bd hF 1 (by decide) (by decide) (rT_0 ρ)) (cwV 2 hts gX8_addAlert_X8_fails rfl rfl rfl (by decide +kernel) ⟨Nat.le_of_ble_eq_true rfl, Nat.le_of_ble_eq_true rfl⟩) ⟨rR.blind, qrecv hC (hW.to rLV0) rfl, rR.pre hC hW⟩ rfl rfl hl.1 rfl (lv_room (Nat.le_of_ble_eq_true rfl)) dX8_addAlert_91 ⟨Nat.le_of_ble_eq_true rfl, Nat.le_of_ble_eq_true rfl⟩) hS (fun _ h => h) (fun _ h => h) (fun H1 locs hW hz hk hS => ?_)
            refine q_ne0 (tgt := 119) hx hb (by decide) dX8_addAlert_94 (by decide) (fun g15 => ?_) (fun g15 => (by omega))
            refine lv_iconst (v := nI 0) hx hb dX8_addAlert_119 (by decide) ?_
            exact W.iret hx hb hr (fun t ht _ => ⟨rfl, by rw [ht]; exact hW, hS.F ht⟩) hS.2.2 dX8_addAlert_120
          · skip
            refine lv_iload hx hb dX8_addAlert_50 (lv_at hl 6 rfl) ?_
            refine lv_iconst (v := nI 1) hx hb dX8_addAlert_52 (by decide) ?_
            refine lv_bipush (v := nI 50) hx hb dX8_addAlert_53 (by decide) ?_
            refine q_v (va_runS (As := [.int (x5), .int (nI 1), .int (nI 50)]) (rest := []) ⟨hx, hb, hml, hown, hts⟩ (m_rin l x5 (nI 1) (nI 50)) (va_cwS 3 hts gX8_addAlert_X8_in rfl rfl rfl (by decide +kernel) ⟨Nat.le_of_ble_eq_true rfl, Nat.le_of_ble_eq_true rfl⟩) ⟨qU.blind, qU.pre⟩ rfl rfl hl.1 rfl (lv_room (Nat.le_of_ble_eq_true rfl)) dX8_addAlert_55 ⟨Nat.le_of_ble_eq_true rfl, Nat.le_of_ble_eq_true rfl⟩) hS (fun _ h => h.elim) (fun locs hS => ?_)
            refine q_eq0 (tgt := 76) hx hb q_31B dX8_addAlert_58 (by decide) (fun g16 => ?_) (fun g16 => ?_)
            · skip
              refine lv_iconst (v := nI 0) hx hb dX8_addAlert_76 (by decide) ?_
              refine lv_istore (lv' := [(8, .int (nI 0)), (0, .ref (bd 0 0)), (1, .int (x0)), (2, .int (x1)), (3, .int (x2)), (4, .int (x3)), (5, .int (x4)), (6, .int (x5)), (7, .int (x6))]) hx hb dX8_addAlert_77 hl (by decide) rfl (fun ls hl => ?_)
              refine lv_aload_n hx hb dX8_addAlert_79 rfl (lv_at hl 1 rfl) ?_
              refine lv_iload hx hb dX8_addAlert_80 (lv_at hl 0 rfl) ?_
              refine q_ne0 (tgt := 89) hx hb (by decide) dX8_addAlert_82 (by decide) (fun g17 => (by omega)) (fun g17 => ?_)
              refine lv_iconst (v := nI 1) hx hb dX8_addAlert_85 (by decide) ?_
              refine lv_goto (tgt := 90) hx hb dX8_addAlert_86 (by decide) ?_
              refine lv_iconst (v := nI 1) hx hb dX8_addAlert_90 (by decide) ?_
              refine q_wv (va_runV (As := [.int (nI 1), .int (nI 1)]) (rest := []) ⟨hx, hb, hml, hown, hts⟩ (m_rfails1 l G A (rT ρ) bd hF 1 (by decide) (by decide) (rT_0 ρ)) (cwV 2 hts gX8_addAlert_X8_fails rfl rfl rfl (by decide +kernel) ⟨Nat.le_of_ble_eq_true rfl, Nat.le_of_ble_eq_true rfl⟩) ⟨rR.blind, qrecv hC (hW.to rLV0) rfl, rR.pre hC hW⟩ rfl rfl hl.1 rfl (lv_room (Nat.le_of_ble_eq_true rfl)) dX8_addAlert_91 ⟨Nat.le_of_ble_eq_true rfl, Nat.le_of_ble_eq_true rfl⟩) hS (fun _ h => h) (fun _ h => h) (fun H1 locs hW hz hk hS => ?_)
              refine q_ne0 (tgt := 119) hx hb (by decide) dX8_addAlert_94 (by decide) (fun g18 => ?_) (fun g18 => (by omega))
              refine lv_iconst (v := nI 0) hx hb dX8_addAlert_119 (by decide) ?_
              exact W.iret hx hb hr (fun t ht _ => ⟨rfl, by rw [ht]; exact hW, hS.F ht⟩) hS.2.2 dX8_addAlert_120
            · skip
              refine lv_iload hx hb dX8_addAlert_61 (lv_at hl 7 rfl) ?_
              refine lv_iconst (v := nI 0) hx hb dX8_addAlert_63 (by decide) ?_
              refine lv_bipush (v := nI 20) hx hb dX8_addAlert_64 (by decide) ?_
              refine q_v (va_runS (As := [.int (x6), .int (nI 0), .int (nI 20)]) (rest := []) ⟨hx, hb, hml, hown, hts⟩ (m_rin l x6 (nI 0) (nI 20)) (va_cwS 3 hts gX8_addAlert_X8_in rfl rfl rfl (by decide +kernel) ⟨Nat.le_of_ble_eq_true rfl, Nat.le_of_ble_eq_true rfl⟩) ⟨qU.blind, qU.pre⟩ rfl rfl hl.1 rfl (lv_room (Nat.le_of_ble_eq_true rfl)) dX8_addAlert_66 ⟨Nat.le_of_ble_eq_true rfl, Nat.le_of_ble_eq_true rfl⟩) hS (fun _ h => h.elim) (fun locs hS => ?_)
              refine q_eq0 (tgt := 76) hx hb q_31B dX8_addAlert_69 (by decide) (fun g19 => ?_) (fun g19 => ?_)
              · skip
                refine lv_iconst (v := nI 0) hx hb dX8_addAlert_76 (by decide) ?_
                refine lv_istore (lv' := [(8, .int (nI 0)), (0, .ref (bd 0 0)), (1, .int (x0)), (2, .int (x1)), (3, .int (x2)), (4, .int (x3)), (5, .int (x4)), (6, .int (x5)), (7, .int (x6))]) hx hb dX8_addAlert_77 hl (by decide) rfl (fun ls hl => ?_)
                refine lv_aload_n hx hb dX8_addAlert_79 rfl (lv_at hl 1 rfl) ?_
                refine lv_iload hx hb dX8_addAlert_80 (lv_at hl 0 rfl) ?_
                refine q_ne0 (tgt := 89) hx hb (by decide) dX8_addAlert_82 (by decide) (fun g20 => (by omega)) (fun g20 => ?_)
                refine lv_iconst (v := nI 1) hx hb dX8_addAlert_85 (by decide) ?_
                refine lv_goto (tgt := 90) hx hb dX8_addAlert_86 (by decide) ?_
                refine lv_iconst (v := nI 1) hx hb dX8_addAlert_90 (by decide) ?_
                refine q_wv (va_runV (As := [.int (nI 1), .int (nI 1)]) (rest := []) ⟨hx, hb, hml, hown, hts⟩ (m_rfails1 l G A (rT ρ) bd hF 1 (by decide) (by decide) (rT_0 ρ)) (cwV 2 hts gX8_addAlert_X8_fails rfl rfl rfl (by decide +kernel) ⟨Nat.le_of_ble_eq_true rfl, Nat.le_of_ble_eq_true rfl⟩) ⟨rR.blind, qrecv hC (hW.to rLV0) rfl, rR.pre hC hW⟩ rfl rfl hl.1 rfl (lv_room (Nat.le_of_ble_eq_true rfl)) dX8_addAlert_91 ⟨Nat.le_of_ble_eq_true rfl, Nat.le_of_ble_eq_true rfl⟩) hS (fun _ h => h) (fun _ h => h) (fun H1 locs hW hz hk hS => ?_)
                refine q_ne0 (tgt := 119) hx hb (by decide) dX8_addAlert_94 (by decide) (fun g21 => ?_) (fun g21 => (by omega))
                refine lv_iconst (v := nI 0) hx hb dX8_addAlert_119 (by decide) ?_
                exact W.iret hx hb hr (fun t ht _ => ⟨rfl, by rw [ht]; exact hW, hS.F ht⟩) hS.2.2 dX8_addAlert_120
              · skip
                refine lv_iconst (v := nI 1) hx hb dX8_addAlert_72 (by decide) ?_
                refine lv_goto (tgt := 77) hx hb dX8_addAlert_73 (by decide) ?_
                refine lv_istore (lv' := [(8, .int (nI 1)), (0, .ref (bd 0 0)), (1, .int (x0)), (2, .int (x1)), (3, .int (x2)), (4, .int (x3)), (5, .int (x4)), (6, .int (x5)), (7, .int (x6))]) hx hb dX8_addAlert_77 hl (by decide) rfl (fun ls hl => ?_)
                refine lv_aload_n hx hb dX8_addAlert_79 rfl (lv_at hl 1 rfl) ?_
                refine lv_iload hx hb dX8_addAlert_80 (lv_at hl 0 rfl) ?_
                refine q_ne0 (tgt := 89) hx hb (by decide) dX8_addAlert_82 (by decide) (fun g22 => ?_) (fun g22 => (by omega))
                refine lv_iconst (v := nI 0) hx hb dX8_addAlert_89 (by decide) ?_
                refine lv_iconst (v := nI 1) hx hb dX8_addAlert_90 (by decide) ?_
                exact absurd ⟨r_un g1, r_un g4, r_un g7, r_un g10, r_un g13, r_un g16, r_un g19⟩ hbad
set_option maxHeartbeats 4000000 in
set_option maxRecDepth 100000 in
theorem x_raddAlert2 (l : Launch) (G : QG) (A : Nat → Prop) (ρ bd : QSt) (hF : rWF (rT ρ)) (s0 r0 P w0 g0 n0 h0 : Nat) (hs0 : s0 < 4) (hr0 : r0 < 5) (hP : P ≤ 3) (hw0 : w0 < 100) (hg0 : 1 ≤ g0 ∧ g0 ≤ 9) (hn0 : 1 ≤ n0 ∧ n0 ≤ 50) (hh0 : h0 ≤ 20) (hn2 : (rT ρ) 0 2 = 6) : Met l yX8_addAlert wsX8_addAlert ({ frames := 2, cells := 0, slots := 0, locals := 42 } : Room) (rR G A ρ bd [.ref (bd 0 0), .int (nI s0), .int (nI r0), .int (nI P - 1), .int (nI w0), .int (nI g0), .int (nI n0), .int (nI h0)]) (qWV (some (.int (nI 0))) (rW G A (qup (rT ρ) 2 0 2) bd) A) 0 0 A := by
  refine Met.ofW (cc := cX8_addAlert) (maxL := 10) (ret := (some .int)) (by decide) rfl ?_
  intro p e s m args below meth c s₁ B hml hv
  obtain ⟨rfl, hC, hW⟩ := hv
  have hx := B.exec
  have hb := B.bytes
  have hr := B.returns
  have hts := atoms_spec (ws := wsX8_addAlert) B.pre
  have hown : s.vm.findClass RX8 = some m.cls := findClass_of_methodNamed B.named
  have hlocks := B.notSynchronized
  have hB := hF.1
  have hn := hF.n
  have hS : va_S A s.heap s.heap [] := va_S.rf
  have hl := lv_entry ([.ref (bd 0 0), .int (nI s0), .int (nI r0), .int (nI P - 1), .int (nI w0), .int (nI g0), .int (nI n0), .int (nI h0)]) (n := 10) (Nat.le_of_ble_eq_true rfl)
  rw [lg_entry_eq]
  generalize (lg_sl ([.ref (bd 0 0), .int (nI s0), .int (nI r0), .int (nI P - 1), .int (nI w0), .int (nI g0), .int (nI n0), .int (nI h0)]) ++ List.replicate (10 - (lg_sl ([.ref (bd 0 0), .int (nI s0), .int (nI r0), .int (nI P - 1), .int (nI w0), .int (nI g0), .int (nI n0), .int (nI h0)])).length) Slot.unset).toArray = ls at hl ⊢
  have hl : lv_has ls 10 [(0, .ref (bd 0 0)), (1, .int (nI s0)), (2, .int (nI r0)), (3, .int (nI P - 1)), (4, .int (nI w0)), (5, .int (nI g0)), (6, .int (nI n0)), (7, .int (nI h0))] := hl
  have iRX8 : ∀ w ∈ wsX80, w ∈ wsX8_addAlert := by decide +kernel
  refine lv_aload_n hx hb dX8_addAlert_0 rfl (lv_at hl 0 rfl) ?_
  refine lv_iconst (v := nI 0) hx hb dX8_addAlert_1 (by decide) ?_
  refine q_put (C := RX8) (T := TX8) (N := 36) (ty := .int) (v := .int (nI 0)) hx hb hts iRX8 tyX8 tyX8_ok nmX8 hown hC.1 (hW.to rLV0) (hW.in rLV0) hS rfl 0 (by decide) (hts (.fieldLink RX8 100 "LogWeaveModel" "thrown" "I") (List.mem_of_getElem? (i := 1) (by decide +kernel))) rfl rfl (by decide +kernel) rfl rfl (Nat.le_of_ble_eq_true rfl) dX8_addAlert_2 (fun H1 locs hat hsz hoq hS => ?_)
  have hW := hW.upR 2 0 0 rfl rLV0 ((rLV0 (ρ := (qup ρ 2 0 0))).trans (by rw [qup_s]; rfl)) hat hoq
  have hW : rW G A (rT ρ) bd _ := hW
  refine lv_iload_n hx hb dX8_addAlert_5 rfl (lv_at hl 1 rfl) ?_
  refine q_v (va_runS (As := [.int (nI s0)]) (rest := []) ⟨hx, hb, hml, hown, hts⟩ (m_risSource l (nI s0)) (va_cwS 1 hts gX8_addAlert_X8_isSource rfl rfl rfl (by decide +kernel) ⟨Nat.le_of_ble_eq_true rfl, Nat.le_of_ble_eq_true rfl⟩) ⟨qU.blind, qU.pre⟩ rfl rfl hl.1 rfl (lv_room (Nat.le_of_ble_eq_true rfl)) dX8_addAlert_6 ⟨Nat.le_of_ble_eq_true rfl, Nat.le_of_ble_eq_true rfl⟩) hS (fun _ h => h.elim) (fun locs hS => ?_)
  refine q_ti (y := nI 1) (by rw [qB_t ⟨nI_le (by omega) (by omega), nI_le (by omega) (by decide)⟩]) ?_
  refine q_eq0 (tgt := 76) hx hb (by decide) dX8_addAlert_9 (by decide) (fun g1 => (by omega)) (fun g1 => ?_)
  refine lv_iload_n hx hb dX8_addAlert_12 rfl (lv_at hl 2 rfl) ?_
  refine q_v (va_runS (As := [.int (nI r0)]) (rest := []) ⟨hx, hb, hml, hown, hts⟩ (m_risRank l (nI r0)) (va_cwS 1 hts gX8_addAlert_X8_isRank rfl rfl rfl (by decide +kernel) ⟨Nat.le_of_ble_eq_true rfl, Nat.le_of_ble_eq_true rfl⟩) ⟨qU.blind, qU.pre⟩ rfl rfl hl.1 rfl (lv_room (Nat.le_of_ble_eq_true rfl)) dX8_addAlert_13 ⟨Nat.le_of_ble_eq_true rfl, Nat.le_of_ble_eq_true rfl⟩) hS (fun _ h => h.elim) (fun locs hS => ?_)
  refine q_ti (y := nI 1) (by rw [qB_t ⟨nI_le (by omega) (by omega), nI_le (by omega) (by decide)⟩]) ?_
  refine q_eq0 (tgt := 76) hx hb (by decide) dX8_addAlert_16 (by decide) (fun g2 => (by omega)) (fun g2 => ?_)
  refine lv_iload_n hx hb dX8_addAlert_19 rfl (lv_at hl 3 rfl) ?_
  refine lv_iconst (v := -1) hx hb dX8_addAlert_20 (by decide) ?_
  refine lv_iconst (v := nI 2) hx hb dX8_addAlert_21 (by decide) ?_
  refine q_v (va_runS (As := [.int (nI P - 1), .int (-1), .int (nI 2)]) (rest := []) ⟨hx, hb, hml, hown, hts⟩ (m_rin l (nI P - 1) (-1) (nI 2)) (va_cwS 3 hts gX8_addAlert_X8_in rfl rfl rfl (by decide +kernel) ⟨Nat.le_of_ble_eq_true rfl, Nat.le_of_ble_eq_true rfl⟩) ⟨qU.blind, qU.pre⟩ rfl rfl hl.1 rfl (lv_room (Nat.le_of_ble_eq_true rfl)) dX8_addAlert_22 ⟨Nat.le_of_ble_eq_true rfl, Nat.le_of_ble_eq_true rfl⟩) hS (fun _ h => h.elim) (fun locs hS => ?_)
  refine q_ti (y := nI 1) (by rw [r_inp (by omega)]) ?_
  refine q_eq0 (tgt := 76) hx hb (by decide) dX8_addAlert_25 (by decide) (fun g3 => (by omega)) (fun g3 => ?_)
  refine lv_iload hx hb dX8_addAlert_28 (lv_at hl 4 rfl) ?_
  refine lv_iconst (v := nI 0) hx hb dX8_addAlert_30 (by decide) ?_
  refine lv_bipush (v := nI 99) hx hb dX8_addAlert_31 (by decide) ?_
  refine q_v (va_runS (As := [.int (nI w0), .int (nI 0), .int (nI 99)]) (rest := []) ⟨hx, hb, hml, hown, hts⟩ (m_rin l (nI w0) (nI 0) (nI 99)) (va_cwS 3 hts gX8_addAlert_X8_in rfl rfl rfl (by decide +kernel) ⟨Nat.le_of_ble_eq_true rfl, Nat.le_of_ble_eq_true rfl⟩) ⟨qU.blind, qU.pre⟩ rfl rfl hl.1 rfl (lv_room (Nat.le_of_ble_eq_true rfl)) dX8_addAlert_33 ⟨Nat.le_of_ble_eq_true rfl, Nat.le_of_ble_eq_true rfl⟩) hS (fun _ h => h.elim) (fun locs hS => ?_)
  refine q_ti (y := nI 1) (by rw [qB_t ⟨nI_le (by omega) (by omega), nI_le (by omega) (by decide)⟩]) ?_
  refine q_eq0 (tgt := 76) hx hb (by decide) dX8_addAlert_36 (by decide) (fun g4 => (by omega)) (fun g4 => ?_)
  refine lv_iload hx hb dX8_addAlert_39 (lv_at hl 5 rfl) ?_
  refine lv_iconst (v := nI 1) hx hb dX8_addAlert_41 (by decide) ?_
  refine lv_bipush (v := nI 9) hx hb dX8_addAlert_42 (by decide) ?_
  refine q_v (va_runS (As := [.int (nI g0), .int (nI 1), .int (nI 9)]) (rest := []) ⟨hx, hb, hml, hown, hts⟩ (m_rin l (nI g0) (nI 1) (nI 9)) (va_cwS 3 hts gX8_addAlert_X8_in rfl rfl rfl (by decide +kernel) ⟨Nat.le_of_ble_eq_true rfl, Nat.le_of_ble_eq_true rfl⟩) ⟨qU.blind, qU.pre⟩ rfl rfl hl.1 rfl (lv_room (Nat.le_of_ble_eq_true rfl)) dX8_addAlert_44 ⟨Nat.le_of_ble_eq_true rfl, Nat.le_of_ble_eq_true rfl⟩) hS (fun _ h => h.elim) (fun locs hS => ?_)
  refine q_ti (y := nI 1) (by rw [qB_t ⟨nI_le (by omega) (by omega), nI_le (by omega) (by decide)⟩]) ?_
  refine q_eq0 (tgt := 76) hx hb (by decide) dX8_addAlert_47 (by decide) (fun g5 => (by omega)) (fun g5 => ?_)
  refine lv_iload hx hb dX8_addAlert_50 (lv_at hl 6 rfl) ?_
  refine lv_iconst (v := nI 1) hx hb dX8_addAlert_52 (by decide) ?_
  refine lv_bipush (v := nI 50) hx hb dX8_addAlert_53 (by decide) ?_
  refine q_v (va_runS (As := [.int (nI n0), .int (nI 1), .int (nI 50)]) (rest := []) ⟨hx, hb, hml, hown, hts⟩ (m_rin l (nI n0) (nI 1) (nI 50)) (va_cwS 3 hts gX8_addAlert_X8_in rfl rfl rfl (by decide +kernel) ⟨Nat.le_of_ble_eq_true rfl, Nat.le_of_ble_eq_true rfl⟩) ⟨qU.blind, qU.pre⟩ rfl rfl hl.1 rfl (lv_room (Nat.le_of_ble_eq_true rfl)) dX8_addAlert_55 ⟨Nat.le_of_ble_eq_true rfl, Nat.le_of_ble_eq_true rfl⟩) hS (fun _ h => h.elim) (fun locs hS => ?_)
  refine q_ti (y := nI 1) (by rw [qB_t ⟨nI_le (by omega) (by omega), nI_le (by omega) (by decide)⟩]) ?_
  refine q_eq0 (tgt := 76) hx hb (by decide) dX8_addAlert_58 (by decide) (fun g6 => (by omega)) (fun g6 => ?_)
  refine lv_iload hx hb dX8_addAlert_61 (lv_at hl 7 rfl) ?_
  refine lv_iconst (v := nI 0) hx hb dX8_addAlert_63 (by decide) ?_
  refine lv_bipush (v := nI 20) hx hb dX8_addAlert_64 (by decide) ?_
  refine q_v (va_runS (As := [.int (nI h0), .int (nI 0), .int (nI 20)]) (rest := []) ⟨hx, hb, hml, hown, hts⟩ (m_rin l (nI h0) (nI 0) (nI 20)) (va_cwS 3 hts gX8_addAlert_X8_in rfl rfl rfl (by decide +kernel) ⟨Nat.le_of_ble_eq_true rfl, Nat.le_of_ble_eq_true rfl⟩) ⟨qU.blind, qU.pre⟩ rfl rfl hl.1 rfl (lv_room (Nat.le_of_ble_eq_true rfl)) dX8_addAlert_66 ⟨Nat.le_of_ble_eq_true rfl, Nat.le_of_ble_eq_true rfl⟩) hS (fun _ h => h.elim) (fun locs hS => ?_)
  refine q_ti (y := nI 1) (by rw [qB_t ⟨nI_le (by omega) (by omega), nI_le (by omega) (by decide)⟩]) ?_
  refine q_eq0 (tgt := 76) hx hb (by decide) dX8_addAlert_69 (by decide) (fun g7 => (by omega)) (fun g7 => ?_)
  refine lv_iconst (v := nI 1) hx hb dX8_addAlert_72 (by decide) ?_
  refine lv_goto (tgt := 77) hx hb dX8_addAlert_73 (by decide) ?_
  refine lv_istore (lv' := [(8, .int (nI 1)), (0, .ref (bd 0 0)), (1, .int (nI s0)), (2, .int (nI r0)), (3, .int (nI P - 1)), (4, .int (nI w0)), (5, .int (nI g0)), (6, .int (nI n0)), (7, .int (nI h0))]) hx hb dX8_addAlert_77 hl (by decide) rfl (fun ls hl => ?_)
  refine lv_aload_n hx hb dX8_addAlert_79 rfl (lv_at hl 1 rfl) ?_
  refine lv_iload hx hb dX8_addAlert_80 (lv_at hl 0 rfl) ?_
  refine q_ne0 (tgt := 89) hx hb (by decide) dX8_addAlert_82 (by decide) (fun g8 => ?_) (fun g8 => (by omega))
  refine lv_iconst (v := nI 0) hx hb dX8_addAlert_89 (by decide) ?_
  refine lv_iconst (v := nI 1) hx hb dX8_addAlert_90 (by decide) ?_
  refine q_v (va_runV (As := [.int (nI 0), .int (nI 1)]) (rest := []) ⟨hx, hb, hml, hown, hts⟩ (m_rfails0 l G A (rT ρ) bd hF 1 (rT_0 ρ)) (cwV 2 hts gX8_addAlert_X8_fails rfl rfl rfl (by decide +kernel) ⟨Nat.le_of_ble_eq_true rfl, Nat.le_of_ble_eq_true rfl⟩) ⟨rR.blind, qrecv hC (hW.to rLV0) rfl, rR.pre hC hW⟩ rfl rfl hl.1 rfl (lv_room (Nat.le_of_ble_eq_true rfl)) dX8_addAlert_91 ⟨Nat.le_of_ble_eq_true rfl, Nat.le_of_ble_eq_true rfl⟩) hS (fun _ h => h.elim) (fun locs hS => ?_)
  refine q_ne0 (tgt := 119) hx hb (by decide) dX8_addAlert_94 (by decide) (fun g9 => (by omega)) (fun g9 => ?_)
  refine lv_aload_n hx hb dX8_addAlert_97 rfl (lv_at hl 1 rfl) ?_
  refine lv_aload_n hx hb dX8_addAlert_98 rfl (lv_at hl 1 rfl) ?_
  refine q_get (C := RX8) (T := TX8) (N := 36) hx hb hts iRX8 hown hC.1 (hW.to rLV0) rfl 14 (by decide) (hts (.fieldLink RX8 114 "LogWeaveModel" "alerts" "I") (List.mem_of_getElem? (i := 2) (by decide +kernel))) rfl (v := .int (nI ((rT ρ) 0 2))) rfl dX8_addAlert_99 ?_
  refine lv_bipush (v := nI 6) hx hb dX8_addAlert_102 (by decide) ?_
  refine q_ne (tgt := 111) hx hb (q31 (hB _ _)) (by decide) dX8_addAlert_104 (by decide) (fun g10 => ?_) (fun g10 => ?_)
  · skip
    refine lv_iconst (v := nI 0) hx hb dX8_addAlert_111 (by decide) ?_
    refine lv_iconst (v := nI 2) hx hb dX8_addAlert_112 (by decide) ?_
    omega
  · skip
    refine lv_iconst (v := nI 1) hx hb dX8_addAlert_107 (by decide) ?_
    refine lv_goto (tgt := 112) hx hb dX8_addAlert_108 (by decide) ?_
    refine lv_iconst (v := nI 2) hx hb dX8_addAlert_112 (by decide) ?_
    refine q_wv (va_runV (As := [.int (nI 1), .int (nI 2)]) (rest := []) ⟨hx, hb, hml, hown, hts⟩ (m_rfails1 l G A (rT ρ) bd hF 2 (by decide) (by decide) (rT_0 ρ)) (cwV 2 hts gX8_addAlert_X8_fails rfl rfl rfl (by decide +kernel) ⟨Nat.le_of_ble_eq_true rfl, Nat.le_of_ble_eq_true rfl⟩) ⟨rR.blind, qrecv hC (hW.to rLV0) rfl, rR.pre hC hW⟩ rfl rfl hl.1 rfl (lv_room (Nat.le_of_ble_eq_true rfl)) dX8_addAlert_113 ⟨Nat.le_of_ble_eq_true rfl, Nat.le_of_ble_eq_true rfl⟩) hS (fun _ h => h) (fun _ h => h) (fun H1 locs hW hz hk hS => ?_)
    refine q_eq0 (tgt := 121) hx hb (by decide) dX8_addAlert_116 (by decide) (fun g11 => (by omega)) (fun g11 => ?_)
    refine lv_iconst (v := nI 0) hx hb dX8_addAlert_119 (by decide) ?_
    exact W.iret hx hb hr (fun t ht _ => ⟨rfl, by rw [ht]; exact hW, hS.F ht⟩) hS.2.2 dX8_addAlert_120
set_option maxHeartbeats 4000000 in
set_option maxRecDepth 100000 in
theorem x_rrelease2 (l : Launch) (G : QG) (A : Nat → Prop) (ρ bd : QSt) (hF : rWF (rT ρ)) (f : Nat) (hf : f < (rT ρ) 0 3) (h1 : (rT ρ) 162 f = 1) : Met l yX8_release wsX8_release ({ frames := 2, cells := 0, slots := 0, locals := 43 } : Room) (rR G A ρ bd [.ref (bd 0 0), .int (nI f)]) (qWV (some (.int (nI 0))) (rW G A (qup (rT ρ) 2 0 2) bd) A) 0 0 A := by
  refine Met.ofW (cc := cX8_release) (maxL := 2) (ret := (some .int)) (by decide) rfl ?_
  intro p e s m args below meth c s₁ B hml hv
  obtain ⟨rfl, hC, hW⟩ := hv
  have hx := B.exec
  have hb := B.bytes
  have hr := B.returns
  have hts := atoms_spec (ws := wsX8_release) B.pre
  have hown : s.vm.findClass RX8 = some m.cls := findClass_of_methodNamed B.named
  have hlocks := B.notSynchronized
  have hB := hF.1
  have hn := hF.n
  have hS : va_S A s.heap s.heap [] := va_S.rf
  have hl := lv_entry ([.ref (bd 0 0), .int (nI f)]) (n := 2) (Nat.le_of_ble_eq_true rfl)
  rw [lg_entry_eq]
  generalize (lg_sl ([.ref (bd 0 0), .int (nI f)]) ++ List.replicate (2 - (lg_sl ([.ref (bd 0 0), .int (nI f)])).length) Slot.unset).toArray = ls at hl ⊢
  have hl : lv_has ls 2 [(0, .ref (bd 0 0)), (1, .int (nI f))] := hl
  have iRX8 : ∀ w ∈ wsX80, w ∈ wsX8_release := by decide +kernel
  refine lv_aload_n hx hb dX8_release_0 rfl (lv_at hl 0 rfl) ?_
  refine lv_iconst (v := nI 0) hx hb dX8_release_1 (by decide) ?_
  refine q_put (C := RX8) (T := TX8) (N := 36) (ty := .int) (v := .int (nI 0)) hx hb hts iRX8 tyX8 tyX8_ok nmX8 hown hC.1 (hW.to rLV0) (hW.in rLV0) hS rfl 0 (by decide) (hts (.fieldLink RX8 100 "LogWeaveModel" "thrown" "I") (List.mem_of_getElem? (i := 1) (by decide +kernel))) rfl rfl (by decide +kernel) rfl rfl (Nat.le_of_ble_eq_true rfl) dX8_release_2 (fun H1 locs hat hsz hoq hS => ?_)
  have hW := hW.upR 2 0 0 rfl rLV0 ((rLV0 (ρ := (qup ρ 2 0 0))).trans (by rw [qup_s]; rfl)) hat hoq
  have hW : rW G A (rT ρ) bd _ := hW
  refine lv_aload_n hx hb dX8_release_5 rfl (lv_at hl 0 rfl) ?_
  refine lv_aload_n hx hb dX8_release_6 rfl (lv_at hl 0 rfl) ?_
  refine lv_iload_n hx hb dX8_release_7 rfl (lv_at hl 1 rfl) ?_
  refine q_v (va_runV (As := [.int (nI f)]) (rest := [.ref (bd 0 0)]) ⟨hx, hb, hml, hown, hts⟩ (m_rnoFiring0 l G A (rT ρ) bd hF f hf) (cwV 1 hts gX8_release_X8_noFiring rfl rfl rfl (by decide +kernel) ⟨Nat.le_of_ble_eq_true rfl, Nat.le_of_ble_eq_true rfl⟩) ⟨rR.blind, qrecv hC (hW.to rLV0) rfl, rR.pre hC hW⟩ rfl rfl hl.1 rfl (lv_room (Nat.le_of_ble_eq_true rfl)) dX8_release_8 ⟨Nat.le_of_ble_eq_true rfl, Nat.le_of_ble_eq_true rfl⟩) hS (fun _ h => h.elim) (fun locs hS => ?_)
  refine lv_iconst (v := nI 1) hx hb dX8_release_11 (by decide) ?_
  refine q_v (va_runV (As := [.int (nI 0), .int (nI 1)]) (rest := []) ⟨hx, hb, hml, hown, hts⟩ (m_rfails0 l G A (rT ρ) bd hF 1 (rT_0 ρ)) (cwV 2 hts gX8_release_X8_fails rfl rfl rfl (by decide +kernel) ⟨Nat.le_of_ble_eq_true rfl, Nat.le_of_ble_eq_true rfl⟩) ⟨rR.blind, qrecv hC (hW.to rLV0) rfl, rR.pre hC hW⟩ rfl rfl hl.1 rfl (lv_room (Nat.le_of_ble_eq_true rfl)) dX8_release_12 ⟨Nat.le_of_ble_eq_true rfl, Nat.le_of_ble_eq_true rfl⟩) hS (fun _ h => h.elim) (fun locs hS => ?_)
  refine q_ne0 (tgt := 76) hx hb (by decide) dX8_release_15 (by decide) (fun g1 => (by omega)) (fun g1 => ?_)
  refine lv_aload_n hx hb dX8_release_18 rfl (lv_at hl 0 rfl) ?_
  refine lv_aload_n hx hb dX8_release_19 rfl (lv_at hl 0 rfl) ?_
  refine q_get (C := RX8) (T := TX8) (N := 36) hx hb hts iRX8 hown hC.1 (hW.to rLV0) rfl 28 (by decide) (hts (.fieldLink RX8 78 "LogWeaveModel" "isReleased" "[Z") (List.mem_of_getElem? (i := 2) (by decide +kernel))) rfl (v := .ref (bd 23 0)) rfl dX8_release_20 ?_
  refine lv_iload_n hx hb dX8_release_23 rfl (lv_at hl 1 rfl) ?_
  refine r_zald hx hb hC.1 (hW.to rLV23) 4 rfl (i := f) (by omega) (by decide) (v := nI ((rT ρ) 162 f)) rfl dX8_release_24 ?_
  refine q_ti (y := nI 1) (by rw [h1]) ?_
  refine lv_iconst (v := nI 2) hx hb dX8_release_25 (by decide) ?_
  refine q_wv (va_runV (As := [.int (nI 1), .int (nI 2)]) (rest := []) ⟨hx, hb, hml, hown, hts⟩ (m_rfails1 l G A (rT ρ) bd hF 2 (by decide) (by decide) (rT_0 ρ)) (cwV 2 hts gX8_release_X8_fails rfl rfl rfl (by decide +kernel) ⟨Nat.le_of_ble_eq_true rfl, Nat.le_of_ble_eq_true rfl⟩) ⟨rR.blind, qrecv hC (hW.to rLV0) rfl, rR.pre hC hW⟩ rfl rfl hl.1 rfl (lv_room (Nat.le_of_ble_eq_true rfl)) dX8_release_26 ⟨Nat.le_of_ble_eq_true rfl, Nat.le_of_ble_eq_true rfl⟩) hS (fun _ h => h) (fun _ h => h) (fun H1 locs hW hz hk hS => ?_)
  refine q_ne0 (tgt := 76) hx hb (by decide) dX8_release_29 (by decide) (fun g2 => ?_) (fun g2 => (by omega))
  refine lv_iconst (v := nI 0) hx hb dX8_release_76 (by decide) ?_
  exact W.iret hx hb hr (fun t ht _ => ⟨rfl, by rw [ht]; exact hW, hS.F ht⟩) hS.2.2 dX8_release_77
set_option maxHeartbeats 4000000 in
set_option maxRecDepth 100000 in
theorem x_rrelease3 (l : Launch) (G : QG) (A : Nat → Prop) (ρ bd : QSt) (hF : rWF (rT ρ)) (f : Nat) (hf : f < (rT ρ) 0 3) (h1 : (rT ρ) 162 f = 0) (h2 : (rT ρ) 131 ((rT ρ) 160 f) ≠ 113) (h3 : (rT ρ) 135 ((rT ρ) 160 f) = f) : Met l yX8_release wsX8_release ({ frames := 2, cells := 0, slots := 0, locals := 43 } : Room) (rR G A ρ bd [.ref (bd 0 0), .int (nI f)]) (qWV (some (.int (nI 0))) (rW G A (qup (rT ρ) 2 0 3) bd) A) 0 0 A := by
  refine Met.ofW (cc := cX8_release) (maxL := 2) (ret := (some .int)) (by decide) rfl ?_
  intro p e s m args below meth c s₁ B hml hv
  obtain ⟨rfl, hC, hW⟩ := hv
  have hx := B.exec
  have hb := B.bytes
  have hr := B.returns
  have hts := atoms_spec (ws := wsX8_release) B.pre
  have hown : s.vm.findClass RX8 = some m.cls := findClass_of_methodNamed B.named
  have hlocks := B.notSynchronized
  have hB := hF.1
  have hn := hF.n
  have hS : va_S A s.heap s.heap [] := va_S.rf
  have hl := lv_entry ([.ref (bd 0 0), .int (nI f)]) (n := 2) (Nat.le_of_ble_eq_true rfl)
  rw [lg_entry_eq]
  generalize (lg_sl ([.ref (bd 0 0), .int (nI f)]) ++ List.replicate (2 - (lg_sl ([.ref (bd 0 0), .int (nI f)])).length) Slot.unset).toArray = ls at hl ⊢
  have hl : lv_has ls 2 [(0, .ref (bd 0 0)), (1, .int (nI f))] := hl
  have iRX8 : ∀ w ∈ wsX80, w ∈ wsX8_release := by decide +kernel
  refine lv_aload_n hx hb dX8_release_0 rfl (lv_at hl 0 rfl) ?_
  refine lv_iconst (v := nI 0) hx hb dX8_release_1 (by decide) ?_
  refine q_put (C := RX8) (T := TX8) (N := 36) (ty := .int) (v := .int (nI 0)) hx hb hts iRX8 tyX8 tyX8_ok nmX8 hown hC.1 (hW.to rLV0) (hW.in rLV0) hS rfl 0 (by decide) (hts (.fieldLink RX8 100 "LogWeaveModel" "thrown" "I") (List.mem_of_getElem? (i := 1) (by decide +kernel))) rfl rfl (by decide +kernel) rfl rfl (Nat.le_of_ble_eq_true rfl) dX8_release_2 (fun H1 locs hat hsz hoq hS => ?_)
  have hW := hW.upR 2 0 0 rfl rLV0 ((rLV0 (ρ := (qup ρ 2 0 0))).trans (by rw [qup_s]; rfl)) hat hoq
  have hW : rW G A (rT ρ) bd _ := hW
  have h160 := hF.fir hf
  refine lv_aload_n hx hb dX8_release_5 rfl (lv_at hl 0 rfl) ?_
  refine lv_aload_n hx hb dX8_release_6 rfl (lv_at hl 0 rfl) ?_
  refine lv_iload_n hx hb dX8_release_7 rfl (lv_at hl 1 rfl) ?_
  refine q_v (va_runV (As := [.int (nI f)]) (rest := [.ref (bd 0 0)]) ⟨hx, hb, hml, hown, hts⟩ (m_rnoFiring0 l G A (rT ρ) bd hF f hf) (cwV 1 hts gX8_release_X8_noFiring rfl rfl rfl (by decide +kernel) ⟨Nat.le_of_ble_eq_true rfl, Nat.le_of_ble_eq_true rfl⟩) ⟨rR.blind, qrecv hC (hW.to rLV0) rfl, rR.pre hC hW⟩ rfl rfl hl.1 rfl (lv_room (Nat.le_of_ble_eq_true rfl)) dX8_release_8 ⟨Nat.le_of_ble_eq_true rfl, Nat.le_of_ble_eq_true rfl⟩) hS (fun _ h => h.elim) (fun locs hS => ?_)
  refine lv_iconst (v := nI 1) hx hb dX8_release_11 (by decide) ?_
  refine q_v (va_runV (As := [.int (nI 0), .int (nI 1)]) (rest := []) ⟨hx, hb, hml, hown, hts⟩ (m_rfails0 l G A (rT ρ) bd hF 1 (rT_0 ρ)) (cwV 2 hts gX8_release_X8_fails rfl rfl rfl (by decide +kernel) ⟨Nat.le_of_ble_eq_true rfl, Nat.le_of_ble_eq_true rfl⟩) ⟨rR.blind, qrecv hC (hW.to rLV0) rfl, rR.pre hC hW⟩ rfl rfl hl.1 rfl (lv_room (Nat.le_of_ble_eq_true rfl)) dX8_release_12 ⟨Nat.le_of_ble_eq_true rfl, Nat.le_of_ble_eq_true rfl⟩) hS (fun _ h => h.elim) (fun locs hS => ?_)
  refine q_ne0 (tgt := 76) hx hb (by decide) dX8_release_15 (by decide) (fun g1 => (by omega)) (fun g1 => ?_)
  refine lv_aload_n hx hb dX8_release_18 rfl (lv_at hl 0 rfl) ?_
  refine lv_aload_n hx hb dX8_release_19 rfl (lv_at hl 0 rfl) ?_
  refine q_get (C := RX8) (T := TX8) (N := 36) hx hb hts iRX8 hown hC.1 (hW.to rLV0) rfl 28 (by decide) (hts (.fieldLink RX8 78 "LogWeaveModel" "isReleased" "[Z") (List.mem_of_getElem? (i := 2) (by decide +kernel))) rfl (v := .ref (bd 23 0)) rfl dX8_release_20 ?_
  refine lv_iload_n hx hb dX8_release_23 rfl (lv_at hl 1 rfl) ?_
  refine r_zald hx hb hC.1 (hW.to rLV23) 4 rfl (i := f) (by omega) (by decide) (v := nI ((rT ρ) 162 f)) rfl dX8_release_24 ?_
  refine q_ti (y := nI 0) (by rw [h1]) ?_
  refine lv_iconst (v := nI 2) hx hb dX8_release_25 (by decide) ?_
  refine q_v (va_runV (As := [.int (nI 0), .int (nI 2)]) (rest := []) ⟨hx, hb, hml, hown, hts⟩ (m_rfails0 l G A (rT ρ) bd hF 2 (rT_0 ρ)) (cwV 2 hts gX8_release_X8_fails rfl rfl rfl (by decide +kernel) ⟨Nat.le_of_ble_eq_true rfl, Nat.le_of_ble_eq_true rfl⟩) ⟨rR.blind, qrecv hC (hW.to rLV0) rfl, rR.pre hC hW⟩ rfl rfl hl.1 rfl (lv_room (Nat.le_of_ble_eq_true rfl)) dX8_release_26 ⟨Nat.le_of_ble_eq_true rfl, Nat.le_of_ble_eq_true rfl⟩) hS (fun _ h => h.elim) (fun locs hS => ?_)
  refine q_ne0 (tgt := 76) hx hb (by decide) dX8_release_29 (by decide) (fun g2 => (by omega)) (fun g2 => ?_)
  refine lv_aload_n hx hb dX8_release_32 rfl (lv_at hl 0 rfl) ?_
  refine lv_aload_n hx hb dX8_release_33 rfl (lv_at hl 0 rfl) ?_
  refine q_get (C := RX8) (T := TX8) (N := 36) hx hb hts iRX8 hown hC.1 (hW.to rLV0) rfl 22 (by decide) (hts (.fieldLink RX8 63 "LogWeaveModel" "alert" "[C") (List.mem_of_getElem? (i := 3) (by decide +kernel))) rfl (v := .ref (bd 18 0)) rfl dX8_release_34 ?_
  refine lv_aload_n hx hb dX8_release_37 rfl (lv_at hl 0 rfl) ?_
  refine q_get (C := RX8) (T := TX8) (N := 36) hx hb hts iRX8 hown hC.1 (hW.to rLV0) rfl 26 (by decide) (hts (.fieldLink RX8 72 "LogWeaveModel" "alertOf" "[I") (List.mem_of_getElem? (i := 4) (by decide +kernel))) rfl (v := .ref (bd 21 0)) rfl dX8_release_38 ?_
  refine lv_iload_n hx hb dX8_release_41 rfl (lv_at hl 1 rfl) ?_
  refine r_iald hx hb hC.1 (hW.to rLV21) 1 rfl (i := f) (by omega) (by decide) (v := nI ((rT ρ) 160 f)) rfl dX8_release_42 ?_
  refine r_cald hx hb hC.1 (hW.to rLV18) 3 rfl (i := ((rT ρ) 160 f)) (by omega) (by decide) (v := nI ((rT ρ) 131 ((rT ρ) 160 f))) rfl dX8_release_43 ?_
  refine lv_bipush (v := nI 113) hx hb dX8_release_44 (by decide) ?_
  refine q_eq (tgt := 68) hx hb (q31 (hB _ _)) (by decide) dX8_release_46 (by decide) (fun g3 => ?_) (fun g3 => ?_)
  · skip
    refine lv_iconst (v := nI 0) hx hb dX8_release_68 (by decide) ?_
    refine lv_iconst (v := nI 3) hx hb dX8_release_69 (by decide) ?_
    omega
  · skip
    refine lv_aload_n hx hb dX8_release_49 rfl (lv_at hl 0 rfl) ?_
    refine q_get (C := RX8) (T := TX8) (N := 36) hx hb hts iRX8 hown hC.1 (hW.to rLV0) rfl 24 (by decide) (hts (.fieldLink RX8 69 "LogWeaveModel" "firing" "[I") (List.mem_of_getElem? (i := 5) (by decide +kernel))) rfl (v := .ref (bd 20 0)) rfl dX8_release_50 ?_
    refine lv_aload_n hx hb dX8_release_53 rfl (lv_at hl 0 rfl) ?_
    refine q_get (C := RX8) (T := TX8) (N := 36) hx hb hts iRX8 hown hC.1 (hW.to rLV0) rfl 26 (by decide) (hts (.fieldLink RX8 72 "LogWeaveModel" "alertOf" "[I") (List.mem_of_getElem? (i := 4) (by decide +kernel))) rfl (v := .ref (bd 21 0)) rfl dX8_release_54 ?_
    refine lv_iload_n hx hb dX8_release_57 rfl (lv_at hl 1 rfl) ?_
    refine r_iald hx hb hC.1 (hW.to rLV21) 1 rfl (i := f) (by omega) (by decide) (v := nI ((rT ρ) 160 f)) rfl dX8_release_58 ?_
    refine r_iald hx hb hC.1 (hW.to rLV20) 1 rfl (i := ((rT ρ) 160 f)) (by omega) (by decide) (v := nI ((rT ρ) 135 ((rT ρ) 160 f))) rfl dX8_release_59 ?_
    refine lv_iload_n hx hb dX8_release_60 rfl (lv_at hl 1 rfl) ?_
    refine q_ne (tgt := 68) hx hb (q31 (hB _ _)) (by omega) dX8_release_61 (by decide) (fun g4 => ?_) (fun g4 => ?_)
    · skip
      refine lv_iconst (v := nI 0) hx hb dX8_release_68 (by decide) ?_
      refine lv_iconst (v := nI 3) hx hb dX8_release_69 (by decide) ?_
      omega
    · skip
      refine lv_iconst (v := nI 1) hx hb dX8_release_64 (by decide) ?_
      refine lv_goto (tgt := 69) hx hb dX8_release_65 (by decide) ?_
      refine lv_iconst (v := nI 3) hx hb dX8_release_69 (by decide) ?_
      refine q_wv (va_runV (As := [.int (nI 1), .int (nI 3)]) (rest := []) ⟨hx, hb, hml, hown, hts⟩ (m_rfails1 l G A (rT ρ) bd hF 3 (by decide) (by decide) (rT_0 ρ)) (cwV 2 hts gX8_release_X8_fails rfl rfl rfl (by decide +kernel) ⟨Nat.le_of_ble_eq_true rfl, Nat.le_of_ble_eq_true rfl⟩) ⟨rR.blind, qrecv hC (hW.to rLV0) rfl, rR.pre hC hW⟩ rfl rfl hl.1 rfl (lv_room (Nat.le_of_ble_eq_true rfl)) dX8_release_70 ⟨Nat.le_of_ble_eq_true rfl, Nat.le_of_ble_eq_true rfl⟩) hS (fun _ h => h) (fun _ h => h) (fun H1 locs hW hz hk hS => ?_)
      refine q_eq0 (tgt := 78) hx hb (by decide) dX8_release_73 (by decide) (fun g5 => (by omega)) (fun g5 => ?_)
      refine lv_iconst (v := nI 0) hx hb dX8_release_76 (by decide) ?_
      exact W.iret hx hb hr (fun t ht _ => ⟨rfl, by rw [ht]; exact hW, hS.F ht⟩) hS.2.2 dX8_release_77
set_option maxHeartbeats 4000000 in
set_option maxRecDepth 100000 in
theorem x_rpass1 (l : Launch) (G : QG) (A : Nat → Prop) (ρ bd : QSt) (hF : rWF (rT ρ)) (x : Int32) (hbad : ¬ (nI 1 ≤ x ∧ x ≤ nI 50)) : Met l yX8_pass wsX8_pass ({ frames := 1, cells := 0, slots := 0, locals := 22 } : Room) (rR G A ρ bd [.ref (bd 0 0), .int (x)]) (qWV (some (.int (nI 0))) (rW G A (qup (rT ρ) 2 0 1) bd) A) 0 0 A := by
  refine Met.ofW (cc := cX8_pass) (maxL := 4) (ret := (some .int)) (by decide) rfl ?_
  intro p e s m args below meth c s₁ B hml hv
  obtain ⟨rfl, hC, hW⟩ := hv
  have hx := B.exec
  have hb := B.bytes
  have hr := B.returns
  have hts := atoms_spec (ws := wsX8_pass) B.pre
  have hown : s.vm.findClass RX8 = some m.cls := findClass_of_methodNamed B.named
  have hlocks := B.notSynchronized
  have hB := hF.1
  have hn := hF.n
  have hS : va_S A s.heap s.heap [] := va_S.rf
  have hl := lv_entry ([.ref (bd 0 0), .int (x)]) (n := 4) (Nat.le_of_ble_eq_true rfl)
  rw [lg_entry_eq]
  generalize (lg_sl ([.ref (bd 0 0), .int (x)]) ++ List.replicate (4 - (lg_sl ([.ref (bd 0 0), .int (x)])).length) Slot.unset).toArray = ls at hl ⊢
  have hl : lv_has ls 4 [(0, .ref (bd 0 0)), (1, .int (x))] := hl
  have iRX8 : ∀ w ∈ wsX80, w ∈ wsX8_pass := by decide +kernel
  refine lv_aload_n hx hb dX8_pass_0 rfl (lv_at hl 0 rfl) ?_
  refine lv_iconst (v := nI 0) hx hb dX8_pass_1 (by decide) ?_
  refine q_put (C := RX8) (T := TX8) (N := 36) (ty := .int) (v := .int (nI 0)) hx hb hts iRX8 tyX8 tyX8_ok nmX8 hown hC.1 (hW.to rLV0) (hW.in rLV0) hS rfl 0 (by decide) (hts (.fieldLink RX8 100 "LogWeaveModel" "thrown" "I") (List.mem_of_getElem? (i := 1) (by decide +kernel))) rfl rfl (by decide +kernel) rfl rfl (Nat.le_of_ble_eq_true rfl) dX8_pass_2 (fun H1 locs hat hsz hoq hS => ?_)
  have hW := hW.upR 2 0 0 rfl rLV0 ((rLV0 (ρ := (qup ρ 2 0 0))).trans (by rw [qup_s]; rfl)) hat hoq
  have hW : rW G A (rT ρ) bd _ := hW
  refine lv_aload_n hx hb dX8_pass_5 rfl (lv_at hl 0 rfl) ?_
  refine lv_iload_n hx hb dX8_pass_6 rfl (lv_at hl 1 rfl) ?_
  refine lv_iconst (v := nI 1) hx hb dX8_pass_7 (by decide) ?_
  refine lv_bipush (v := nI 50) hx hb dX8_pass_8 (by decide) ?_
  refine q_v (va_runS (As := [.int (x), .int (nI 1), .int (nI 50)]) (rest := [.ref (bd 0 0)]) ⟨hx, hb, hml, hown, hts⟩ (m_rin l x (nI 1) (nI 50)) (va_cwS 3 hts gX8_pass_X8_in rfl rfl rfl (by decide +kernel) ⟨Nat.le_of_ble_eq_true rfl, Nat.le_of_ble_eq_true rfl⟩) ⟨qU.blind, qU.pre⟩ rfl rfl hl.1 rfl (lv_room (Nat.le_of_ble_eq_true rfl)) dX8_pass_10 ⟨Nat.le_of_ble_eq_true rfl, Nat.le_of_ble_eq_true rfl⟩) hS (fun _ h => h.elim) (fun locs hS => ?_)
  refine q_ne0 (tgt := 20) hx hb q_31B dX8_pass_13 (by decide) (fun g1 => ?_) (fun g1 => ?_)
  · skip
    refine lv_iconst (v := nI 0) hx hb dX8_pass_20 (by decide) ?_
    refine lv_iconst (v := nI 1) hx hb dX8_pass_21 (by decide) ?_
    exact absurd (r_un g1) hbad
  · skip
    refine lv_iconst (v := nI 1) hx hb dX8_pass_16 (by decide) ?_
    refine lv_goto (tgt := 21) hx hb dX8_pass_17 (by decide) ?_
    refine lv_iconst (v := nI 1) hx hb dX8_pass_21 (by decide) ?_
    refine q_wv (va_runV (As := [.int (nI 1), .int (nI 1)]) (rest := []) ⟨hx, hb, hml, hown, hts⟩ (m_rfails1 l G A (rT ρ) bd hF 1 (by decide) (by decide) (rT_0 ρ)) (cwV 2 hts gX8_pass_X8_fails rfl rfl rfl (by decide +kernel) ⟨Nat.le_of_ble_eq_true rfl, Nat.le_of_ble_eq_true rfl⟩) ⟨rR.blind, qrecv hC (hW.to rLV0) rfl, rR.pre hC hW⟩ rfl rfl hl.1 rfl (lv_room (Nat.le_of_ble_eq_true rfl)) dX8_pass_22 ⟨Nat.le_of_ble_eq_true rfl, Nat.le_of_ble_eq_true rfl⟩) hS (fun _ h => h) (fun _ h => h) (fun H1 locs hW hz hk hS => ?_)
    refine q_ne0 (tgt := 53) hx hb (by decide) dX8_pass_25 (by decide) (fun g2 => ?_) (fun g2 => (by omega))
    refine lv_iconst (v := nI 0) hx hb dX8_pass_53 (by decide) ?_
    exact W.iret hx hb hr (fun t ht _ => ⟨rfl, by rw [ht]; exact hW, hS.F ht⟩) hS.2.2 dX8_pass_54
set_option maxHeartbeats 4000000 in
set_option maxRecDepth 100000 in
theorem x_rpass2 (l : Launch) (G : QG) (A : Nat → Prop) (ρ bd : QSt) (hF : rWF (rT ρ)) (n0 : Nat) (hn0 : 1 ≤ n0 ∧ n0 ≤ 50) (h5 : 5000 < (rT ρ) 1 0 + n0) : Met l yX8_pass wsX8_pass ({ frames := 1, cells := 0, slots := 0, locals := 22 } : Room) (rR G A ρ bd [.ref (bd 0 0), .int (nI n0)]) (qWV (some (.int (nI 0))) (rW G A (qup (rT ρ) 2 0 2) bd) A) 0 0 A := by
  refine Met.ofW (cc := cX8_pass) (maxL := 4) (ret := (some .int)) (by decide) rfl ?_
  intro p e s m args below meth c s₁ B hml hv
  obtain ⟨rfl, hC, hW⟩ := hv
  have hx := B.exec
  have hb := B.bytes
  have hr := B.returns
  have hts := atoms_spec (ws := wsX8_pass) B.pre
  have hown : s.vm.findClass RX8 = some m.cls := findClass_of_methodNamed B.named
  have hlocks := B.notSynchronized
  have hB := hF.1
  have hn := hF.n
  have hS : va_S A s.heap s.heap [] := va_S.rf
  have hl := lv_entry ([.ref (bd 0 0), .int (nI n0)]) (n := 4) (Nat.le_of_ble_eq_true rfl)
  rw [lg_entry_eq]
  generalize (lg_sl ([.ref (bd 0 0), .int (nI n0)]) ++ List.replicate (4 - (lg_sl ([.ref (bd 0 0), .int (nI n0)])).length) Slot.unset).toArray = ls at hl ⊢
  have hl : lv_has ls 4 [(0, .ref (bd 0 0)), (1, .int (nI n0))] := hl
  have iRX8 : ∀ w ∈ wsX80, w ∈ wsX8_pass := by decide +kernel
  refine lv_aload_n hx hb dX8_pass_0 rfl (lv_at hl 0 rfl) ?_
  refine lv_iconst (v := nI 0) hx hb dX8_pass_1 (by decide) ?_
  refine q_put (C := RX8) (T := TX8) (N := 36) (ty := .int) (v := .int (nI 0)) hx hb hts iRX8 tyX8 tyX8_ok nmX8 hown hC.1 (hW.to rLV0) (hW.in rLV0) hS rfl 0 (by decide) (hts (.fieldLink RX8 100 "LogWeaveModel" "thrown" "I") (List.mem_of_getElem? (i := 1) (by decide +kernel))) rfl rfl (by decide +kernel) rfl rfl (Nat.le_of_ble_eq_true rfl) dX8_pass_2 (fun H1 locs hat hsz hoq hS => ?_)
  have hW := hW.upR 2 0 0 rfl rLV0 ((rLV0 (ρ := (qup ρ 2 0 0))).trans (by rw [qup_s]; rfl)) hat hoq
  have hW : rW G A (rT ρ) bd _ := hW
  have hB1 := hB 1 0
  refine lv_aload_n hx hb dX8_pass_5 rfl (lv_at hl 0 rfl) ?_
  refine lv_iload_n hx hb dX8_pass_6 rfl (lv_at hl 1 rfl) ?_
  refine lv_iconst (v := nI 1) hx hb dX8_pass_7 (by decide) ?_
  refine lv_bipush (v := nI 50) hx hb dX8_pass_8 (by decide) ?_
  refine q_v (va_runS (As := [.int (nI n0), .int (nI 1), .int (nI 50)]) (rest := [.ref (bd 0 0)]) ⟨hx, hb, hml, hown, hts⟩ (m_rin l (nI n0) (nI 1) (nI 50)) (va_cwS 3 hts gX8_pass_X8_in rfl rfl rfl (by decide +kernel) ⟨Nat.le_of_ble_eq_true rfl, Nat.le_of_ble_eq_true rfl⟩) ⟨qU.blind, qU.pre⟩ rfl rfl hl.1 rfl (lv_room (Nat.le_of_ble_eq_true rfl)) dX8_pass_10 ⟨Nat.le_of_ble_eq_true rfl, Nat.le_of_ble_eq_true rfl⟩) hS (fun _ h => h.elim) (fun locs hS => ?_)
  refine q_ti (y := nI 1) (by rw [qB_t ⟨nI_le (by omega) (by omega), nI_le (by omega) (by decide)⟩]) ?_
  refine q_ne0 (tgt := 20) hx hb (by decide) dX8_pass_13 (by decide) (fun g1 => ?_) (fun g1 => (by omega))
  refine lv_iconst (v := nI 0) hx hb dX8_pass_20 (by decide) ?_
  refine lv_iconst (v := nI 1) hx hb dX8_pass_21 (by decide) ?_
  refine q_v (va_runV (As := [.int (nI 0), .int (nI 1)]) (rest := []) ⟨hx, hb, hml, hown, hts⟩ (m_rfails0 l G A (rT ρ) bd hF 1 (rT_0 ρ)) (cwV 2 hts gX8_pass_X8_fails rfl rfl rfl (by decide +kernel) ⟨Nat.le_of_ble_eq_true rfl, Nat.le_of_ble_eq_true rfl⟩) ⟨rR.blind, qrecv hC (hW.to rLV0) rfl, rR.pre hC hW⟩ rfl rfl hl.1 rfl (lv_room (Nat.le_of_ble_eq_true rfl)) dX8_pass_22 ⟨Nat.le_of_ble_eq_true rfl, Nat.le_of_ble_eq_true rfl⟩) hS (fun _ h => h.elim) (fun locs hS => ?_)
  refine q_ne0 (tgt := 53) hx hb (by decide) dX8_pass_25 (by decide) (fun g2 => (by omega)) (fun g2 => ?_)
  refine lv_aload_n hx hb dX8_pass_28 rfl (lv_at hl 0 rfl) ?_
  refine lv_aload_n hx hb dX8_pass_29 rfl (lv_at hl 0 rfl) ?_
  refine q_get (C := RX8) (T := TX8) (N := 36) hx hb hts iRX8 hown hC.1 (hW.to rLV0) rfl 1 (by decide) (hts (.fieldLink RX8 132 "LogWeaveModel" "tick" "I") (List.mem_of_getElem? (i := 2) (by decide +kernel))) rfl (v := .int (nI ((rT ρ) 1 0))) rfl dX8_pass_30 ?_
  refine lv_iload_n hx hb dX8_pass_33 rfl (lv_at hl 1 rfl) ?_
  refine lv_iadd hx hb dX8_pass_34 ?_
  refine q_ti (nI_add ((rT ρ) 1 0) n0) ?_
  refine lv_sipush (v := nI 5000) hx hb dX8_pass_35 (by decide) ?_
  refine q_le (tgt := 45) hx hb (by omega) (by decide) dX8_pass_38 (by decide) (fun g3 => ?_) (fun g3 => ?_)
  · skip
    refine lv_iconst (v := nI 0) hx hb dX8_pass_45 (by decide) ?_
    refine lv_iconst (v := nI 2) hx hb dX8_pass_46 (by decide) ?_
    omega
  · skip
    refine lv_iconst (v := nI 1) hx hb dX8_pass_41 (by decide) ?_
    refine lv_goto (tgt := 46) hx hb dX8_pass_42 (by decide) ?_
    refine lv_iconst (v := nI 2) hx hb dX8_pass_46 (by decide) ?_
    refine q_wv (va_runV (As := [.int (nI 1), .int (nI 2)]) (rest := []) ⟨hx, hb, hml, hown, hts⟩ (m_rfails1 l G A (rT ρ) bd hF 2 (by decide) (by decide) (rT_0 ρ)) (cwV 2 hts gX8_pass_X8_fails rfl rfl rfl (by decide +kernel) ⟨Nat.le_of_ble_eq_true rfl, Nat.le_of_ble_eq_true rfl⟩) ⟨rR.blind, qrecv hC (hW.to rLV0) rfl, rR.pre hC hW⟩ rfl rfl hl.1 rfl (lv_room (Nat.le_of_ble_eq_true rfl)) dX8_pass_47 ⟨Nat.le_of_ble_eq_true rfl, Nat.le_of_ble_eq_true rfl⟩) hS (fun _ h => h) (fun _ h => h) (fun H1 locs hW hz hk hS => ?_)
    refine q_eq0 (tgt := 55) hx hb (by decide) dX8_pass_50 (by decide) (fun g4 => (by omega)) (fun g4 => ?_)
    refine lv_iconst (v := nI 0) hx hb dX8_pass_53 (by decide) ?_
    exact W.iret hx hb hr (fun t ht _ => ⟨rfl, by rw [ht]; exact hW, hS.F ht⟩) hS.2.2 dX8_pass_54
