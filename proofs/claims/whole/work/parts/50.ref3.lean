theorem r_qB {v : Nat} {P : Prop} [Decidable P] (h1 : v ≤ 1) (h : v = 1 ↔ P) : v = qB P := by
  by_cases c : P
  · rw [qB_t c]; exact h.mpr c
  · rw [qB_f c]
    rcases Nat.eq_zero_or_pos v with z | z
    · exact z
    · exact absurd (h.mp (by omega)) c
abbrev rfp (ρ : QSt) (l0 p0 k : Nat) : Prop := ρ (112 + k) p0 = 0 ∨ ρ (112 + k) p0 = ρ (80 + k) l0 + 1
abbrev rfit (ρ : QSt) (l0 p0 i : Nat) : Prop := ρ 96 p0 = ρ 64 l0 ∧ ∀ k, k < i → rfp ρ l0 p0 k
/-- the place at which two patterns differ, and one; 0 if it isn't one alone -/
def rDi (ρ : QSt) (p0 q0 d : Nat) : Prop := (d = 0 ∧ qdf (fun k => ρ (112 + k) p0) (fun k => ρ (112 + k) q0) 3 ≠ 1) ∨ (qdf (fun k => ρ (112 + k) p0) (fun k => ρ (112 + k) q0) 3 = 1 ∧ ∃ k, k < 3 ∧ d = k + 1 ∧ ρ (112 + k) p0 ≠ ρ (112 + k) q0)
theorem r_df3 (P Q : Nat → Nat) : qdf P Q 3 = qB (P 0 ≠ Q 0) + qB (P 1 ≠ Q 1) + qB (P 2 ≠ Q 2) := by
  show 0 + _ + _ + _ = _
  rw [Nat.zero_add]
theorem r_df1 {P Q : Nat → Nat} (h : qdf P Q 3 = 1) {j k : Nat} (hj : j < 3) (hk : k < 3) (h1 : P j ≠ Q j) (h2 : P k ≠ Q k) : j = k := by
  rw [r_df3] at h
  rcases (show j = 0 ∨ j = 1 ∨ j = 2 by omega) with rfl | rfl | rfl <;> rcases (show k = 0 ∨ k = 1 ∨ k = 2 by omega) with rfl | rfl | rfl <;> first
    | rfl
    | (rw [qB_t h1, qB_t h2] at h; omega)
theorem r_dfk {P Q : Nat → Nat} (h : qdf P Q 3 = 1) : ∃ k, k < 3 ∧ P k ≠ Q k := by
  rw [r_df3] at h
  by_cases c0 : P 0 ≠ Q 0
  · exact ⟨0, by decide, c0⟩
  by_cases c1 : P 1 ≠ Q 1
  · exact ⟨1, by decide, c1⟩
  by_cases c2 : P 2 ≠ Q 2
  · exact ⟨2, by decide, c2⟩
  rw [qB_f c0, qB_f c1, qB_f c2] at h
  omega
theorem rDi_ex (ρ : QSt) (p0 q0 : Nat) : ∃ d, rDi ρ p0 q0 d := by
  by_cases c : qdf (fun k => ρ (112 + k) p0) (fun k => ρ (112 + k) q0) 3 = 1
  · obtain ⟨k, h1, h2⟩ := r_dfk c
    exact ⟨k + 1, Or.inr ⟨c, k, h1, rfl, h2⟩⟩
  · exact ⟨0, Or.inl ⟨rfl, c⟩⟩
/-- a firing that was not released stands on a line -/
abbrev ron (ρ : QSt) (f l : Nat) : Prop := ρ 162 f = 0 ∧ ρ (1000 + f) l = 1
def rgd (ρ : QSt) (l : Nat) : Prop := ((∃ a, a < ρ 0 2 ∧ qcn ρ a l) ∨ (∃ f, f < ρ 0 3 ∧ ron ρ f l)) ∧ ρ 69 l ≠ 100
noncomputable def rgdN (ρ : QSt) (l : Nat) : Nat := @qB (rgd ρ l) (Classical.propDecidable _)
theorem rgdN_le (ρ : QSt) (l : Nat) : rgdN ρ l ≤ 1 := @qB_le _ (Classical.propDecidable _)
theorem rgdN_t {ρ : QSt} {l : Nat} (h : rgd ρ l) : rgdN ρ l = 1 := @qB_t _ (Classical.propDecidable _) h
theorem rgdN_f {ρ : QSt} {l : Nat} (h : ¬ rgd ρ l) : rgdN ρ l = 0 := @qB_f _ (Classical.propDecidable _) h

set_option maxHeartbeats 4000000 in
set_option maxRecDepth 100000 in
theorem m_rcounts (l : Launch) (G : QG) (A : Nat → Prop) (ρ bd : QSt) (hF : rWF ρ) (a l0 : Nat) (ha : a < ρ 0 2) (hl0 : l0 < ρ 0 0) : Met l yX8_counts wsX8_counts ({ frames := 0, cells := 0, slots := 0, locals := 0 } : Room) (rR G A ρ bd [.ref (bd 0 0), .int (nI a), .int (nI l0)]) (qPV (some (.int (nI (qB (qcn ρ a l0)))))) 0 0 (fun _ => False) := by
  refine Met.ofW (cc := cX8_counts) (maxL := 4) (ret := (some .boolean)) (by decide) rfl ?_
  intro p e s m args below meth c s₁ B hml hv
  obtain ⟨rfl, hC, hW⟩ := hv
  have hx := B.exec
  have hb := B.bytes
  have hr := B.returns
  have hts := atoms_spec (ws := wsX8_counts) B.pre
  have hown : s.vm.findClass RX8 = some m.cls := findClass_of_methodNamed B.named
  have hlocks := B.notSynchronized
  have hB := hF.1
  have hn := hF.n
  have hS : va_S (fun _ => False) s.heap s.heap [] := va_S.rf
  have hl := lv_entry ([.ref (bd 0 0), .int (nI a), .int (nI l0)]) (n := 4) (Nat.le_of_ble_eq_true rfl)
  rw [lg_entry_eq]
  generalize (lg_sl ([.ref (bd 0 0), .int (nI a), .int (nI l0)]) ++ List.replicate (4 - (lg_sl ([.ref (bd 0 0), .int (nI a), .int (nI l0)])).length) Slot.unset).toArray = ls at hl ⊢
  have hl : lv_has ls 4 [(0, .ref (bd 0 0)), (1, .int (nI a)), (2, .int (nI l0))] := hl
  have iRX8 : ∀ w ∈ wsX80, w ∈ wsX8_counts := by decide +kernel
  have hB1 := hB 1 0
  have h3 := (hF.al ha).1
  have h4 := (hF.lin hl0).1
  refine lv_aload_n hx hb dX8_counts_0 rfl (lv_at hl 0 rfl) ?_
  refine q_get (C := RX8) (T := TX8) (N := 36) hx hb hts iRX8 hown hC.1 (hW.to rLV0) rfl 8 (by decide) (hts (.fieldLink RX8 25 "LogWeaveModel" "state" "[C") (List.mem_of_getElem? (i := 1) (by decide +kernel))) rfl (v := .ref (bd 6 0)) rfl dX8_counts_1 ?_
  refine lv_iload_n hx hb dX8_counts_4 rfl (lv_at hl 2 rfl) ?_
  refine r_cald hx hb hC.1 (hW.to rLV6) 3 rfl (i := l0) (by omega) (by decide) (v := nI (ρ 69 l0)) rfl dX8_counts_5 ?_
  refine lv_bipush (v := nI 100) hx hb dX8_counts_6 (by decide) ?_
  refine q_eq (tgt := 65) hx hb (q31 (hB _ _)) (by decide) dX8_counts_8 (by decide) (fun g1 => ?_) (fun g1 => ?_)
  · skip
    refine lv_iconst (v := nI 0) hx hb dX8_counts_65 (by decide) ?_
    refine lv_istore_n (lv' := [(3, .int (nI 0)), (0, .ref (bd 0 0)), (1, .int (nI a)), (2, .int (nI l0))]) hx hb dX8_counts_66 rfl hl (by decide) rfl (fun ls hl => ?_)
    refine lv_iload_n hx hb dX8_counts_67 rfl (lv_at hl 0 rfl) ?_
    refine q_eq0 (tgt := 109) hx hb (by decide) dX8_counts_68 (by decide) (fun g2 => ?_) (fun g2 => (by omega))
    refine lv_iconst (v := nI 0) hx hb dX8_counts_109 (by decide) ?_
    exact W.zret (v := nI 0) hx hb hr rfl (fun t ht _ => ⟨by rw [qB_f (show ¬ (ρ 69 l0 ≠ 100 ∧ ρ 1 0 - ρ 67 l0 < ρ 129 a ∧ ρ 64 l0 = ρ 144 a ∧ ρ 145 a ≤ ρ 65 l0 ∧ (ρ 146 a = 0 ∨ ρ (80 + (ρ 146 a - 1)) l0 = ρ 147 a)) from by omega)], ht⟩) hS.2.2 dX8_counts_110
  · skip
    refine lv_aload_n hx hb dX8_counts_11 rfl (lv_at hl 0 rfl) ?_
    refine q_get (C := RX8) (T := TX8) (N := 36) hx hb hts iRX8 hown hC.1 (hW.to rLV0) rfl 3 (by decide) (hts (.fieldLink RX8 7 "LogWeaveModel" "source" "[I") (List.mem_of_getElem? (i := 2) (by decide +kernel))) rfl (v := .ref (bd 1 0)) rfl dX8_counts_12 ?_
    refine lv_iload_n hx hb dX8_counts_15 rfl (lv_at hl 2 rfl) ?_
    refine r_iald hx hb hC.1 (hW.to rLV1) 1 rfl (i := l0) (by omega) (by decide) (v := nI (ρ 64 l0)) rfl dX8_counts_16 ?_
    refine lv_aload_n hx hb dX8_counts_17 rfl (lv_at hl 0 rfl) ?_
    refine q_get (C := RX8) (T := TX8) (N := 36) hx hb hts iRX8 hown hC.1 (hW.to rLV0) rfl 15 (by decide) (hts (.fieldLink RX8 42 "LogWeaveModel" "at" "[I") (List.mem_of_getElem? (i := 3) (by decide +kernel))) rfl (v := .ref (bd 11 0)) rfl dX8_counts_18 ?_
    refine lv_iload_n hx hb dX8_counts_21 rfl (lv_at hl 1 rfl) ?_
    refine r_iald hx hb hC.1 (hW.to rLV11) 1 rfl (i := a) (by omega) (by decide) (v := nI (ρ 144 a)) rfl dX8_counts_22 ?_
    refine q_ne (tgt := 65) hx hb (q31 (hB _ _)) (q31 (hB _ _)) dX8_counts_23 (by decide) (fun g3 => ?_) (fun g3 => ?_)
    · skip
      refine lv_iconst (v := nI 0) hx hb dX8_counts_65 (by decide) ?_
      refine lv_istore_n (lv' := [(3, .int (nI 0)), (0, .ref (bd 0 0)), (1, .int (nI a)), (2, .int (nI l0))]) hx hb dX8_counts_66 rfl hl (by decide) rfl (fun ls hl => ?_)
      refine lv_iload_n hx hb dX8_counts_67 rfl (lv_at hl 0 rfl) ?_
      refine q_eq0 (tgt := 109) hx hb (by decide) dX8_counts_68 (by decide) (fun g4 => ?_) (fun g4 => (by omega))
      refine lv_iconst (v := nI 0) hx hb dX8_counts_109 (by decide) ?_
      exact W.zret (v := nI 0) hx hb hr rfl (fun t ht _ => ⟨by rw [qB_f (show ¬ (ρ 69 l0 ≠ 100 ∧ ρ 1 0 - ρ 67 l0 < ρ 129 a ∧ ρ 64 l0 = ρ 144 a ∧ ρ 145 a ≤ ρ 65 l0 ∧ (ρ 146 a = 0 ∨ ρ (80 + (ρ 146 a - 1)) l0 = ρ 147 a)) from by omega)], ht⟩) hS.2.2 dX8_counts_110
    · skip
      refine lv_aload_n hx hb dX8_counts_26 rfl (lv_at hl 0 rfl) ?_
      refine q_get (C := RX8) (T := TX8) (N := 36) hx hb hts iRX8 hown hC.1 (hW.to rLV0) rfl 4 (by decide) (hts (.fieldLink RX8 13 "LogWeaveModel" "rank" "[I") (List.mem_of_getElem? (i := 4) (by decide +kernel))) rfl (v := .ref (bd 2 0)) rfl dX8_counts_27 ?_
      refine lv_iload_n hx hb dX8_counts_30 rfl (lv_at hl 2 rfl) ?_
      refine r_iald hx hb hC.1 (hW.to rLV2) 1 rfl (i := l0) (by omega) (by decide) (v := nI (ρ 65 l0)) rfl dX8_counts_31 ?_
      refine lv_aload_n hx hb dX8_counts_32 rfl (lv_at hl 0 rfl) ?_
      refine q_get (C := RX8) (T := TX8) (N := 36) hx hb hts iRX8 hown hC.1 (hW.to rLV0) rfl 16 (by decide) (hts (.fieldLink RX8 45 "LogWeaveModel" "least" "[I") (List.mem_of_getElem? (i := 5) (by decide +kernel))) rfl (v := .ref (bd 12 0)) rfl dX8_counts_33 ?_
      refine lv_iload_n hx hb dX8_counts_36 rfl (lv_at hl 1 rfl) ?_
      refine r_iald hx hb hC.1 (hW.to rLV12) 1 rfl (i := a) (by omega) (by decide) (v := nI (ρ 145 a)) rfl dX8_counts_37 ?_
      refine q_lt (tgt := 65) hx hb (q31 (hB _ _)) (q31 (hB _ _)) dX8_counts_38 (by decide) (fun g5 => ?_) (fun g5 => ?_)
      · skip
        refine lv_iconst (v := nI 0) hx hb dX8_counts_65 (by decide) ?_
        refine lv_istore_n (lv' := [(3, .int (nI 0)), (0, .ref (bd 0 0)), (1, .int (nI a)), (2, .int (nI l0))]) hx hb dX8_counts_66 rfl hl (by decide) rfl (fun ls hl => ?_)
        refine lv_iload_n hx hb dX8_counts_67 rfl (lv_at hl 0 rfl) ?_
        refine q_eq0 (tgt := 109) hx hb (by decide) dX8_counts_68 (by decide) (fun g6 => ?_) (fun g6 => (by omega))
        refine lv_iconst (v := nI 0) hx hb dX8_counts_109 (by decide) ?_
        exact W.zret (v := nI 0) hx hb hr rfl (fun t ht _ => ⟨by rw [qB_f (show ¬ (ρ 69 l0 ≠ 100 ∧ ρ 1 0 - ρ 67 l0 < ρ 129 a ∧ ρ 64 l0 = ρ 144 a ∧ ρ 145 a ≤ ρ 65 l0 ∧ (ρ 146 a = 0 ∨ ρ (80 + (ρ 146 a - 1)) l0 = ρ 147 a)) from by omega)], ht⟩) hS.2.2 dX8_counts_110
      · skip
        refine lv_aload_n hx hb dX8_counts_41 rfl (lv_at hl 0 rfl) ?_
        refine q_get (C := RX8) (T := TX8) (N := 36) hx hb hts iRX8 hown hC.1 (hW.to rLV0) rfl 1 (by decide) (hts (.fieldLink RX8 132 "LogWeaveModel" "tick" "I") (List.mem_of_getElem? (i := 6) (by decide +kernel))) rfl (v := .int (nI (ρ 1 0))) rfl dX8_counts_42 ?_
        refine lv_aload_n hx hb dX8_counts_45 rfl (lv_at hl 0 rfl) ?_
        refine q_get (C := RX8) (T := TX8) (N := 36) hx hb hts iRX8 hown hC.1 (hW.to rLV0) rfl 7 (by decide) (hts (.fieldLink RX8 22 "LogWeaveModel" "came" "[I") (List.mem_of_getElem? (i := 7) (by decide +kernel))) rfl (v := .ref (bd 5 0)) rfl dX8_counts_46 ?_
        refine lv_iload_n hx hb dX8_counts_49 rfl (lv_at hl 2 rfl) ?_
        refine r_iald hx hb hC.1 (hW.to rLV5) 1 rfl (i := l0) (by omega) (by decide) (v := nI (ρ 67 l0)) rfl dX8_counts_50 ?_
        refine lv_isub hx hb dX8_counts_51 ?_
        refine q_ti (r_sub (a := (ρ 1 0)) (b := (ρ 67 l0)) (by omega)) ?_
        refine lv_aload_n hx hb dX8_counts_52 rfl (lv_at hl 0 rfl) ?_
        refine q_get (C := RX8) (T := TX8) (N := 36) hx hb hts iRX8 hown hC.1 (hW.to rLV0) rfl 20 (by decide) (hts (.fieldLink RX8 57 "LogWeaveModel" "window" "[I") (List.mem_of_getElem? (i := 8) (by decide +kernel))) rfl (v := .ref (bd 16 0)) rfl dX8_counts_53 ?_
        refine lv_iload_n hx hb dX8_counts_56 rfl (lv_at hl 1 rfl) ?_
        refine r_iald hx hb hC.1 (hW.to rLV16) 1 rfl (i := a) (by omega) (by decide) (v := nI (ρ 129 a)) rfl dX8_counts_57 ?_
        refine q_ge (tgt := 65) hx hb (by omega) (q31 (hB _ _)) dX8_counts_58 (by decide) (fun g7 => ?_) (fun g7 => ?_)
        · skip
          refine lv_iconst (v := nI 0) hx hb dX8_counts_65 (by decide) ?_
          refine lv_istore_n (lv' := [(3, .int (nI 0)), (0, .ref (bd 0 0)), (1, .int (nI a)), (2, .int (nI l0))]) hx hb dX8_counts_66 rfl hl (by decide) rfl (fun ls hl => ?_)
          refine lv_iload_n hx hb dX8_counts_67 rfl (lv_at hl 0 rfl) ?_
          refine q_eq0 (tgt := 109) hx hb (by decide) dX8_counts_68 (by decide) (fun g8 => ?_) (fun g8 => (by omega))
          refine lv_iconst (v := nI 0) hx hb dX8_counts_109 (by decide) ?_
          exact W.zret (v := nI 0) hx hb hr rfl (fun t ht _ => ⟨by rw [qB_f (show ¬ (ρ 69 l0 ≠ 100 ∧ ρ 1 0 - ρ 67 l0 < ρ 129 a ∧ ρ 64 l0 = ρ 144 a ∧ ρ 145 a ≤ ρ 65 l0 ∧ (ρ 146 a = 0 ∨ ρ (80 + (ρ 146 a - 1)) l0 = ρ 147 a)) from by omega)], ht⟩) hS.2.2 dX8_counts_110
        · skip
          refine lv_iconst (v := nI 1) hx hb dX8_counts_61 (by decide) ?_
          refine lv_goto (tgt := 66) hx hb dX8_counts_62 (by decide) ?_
          refine lv_istore_n (lv' := [(3, .int (nI 1)), (0, .ref (bd 0 0)), (1, .int (nI a)), (2, .int (nI l0))]) hx hb dX8_counts_66 rfl hl (by decide) rfl (fun ls hl => ?_)
          refine lv_iload_n hx hb dX8_counts_67 rfl (lv_at hl 0 rfl) ?_
          refine q_eq0 (tgt := 109) hx hb (by decide) dX8_counts_68 (by decide) (fun g9 => (by omega)) (fun g9 => ?_)
          refine lv_aload_n hx hb dX8_counts_71 rfl (lv_at hl 1 rfl) ?_
          refine q_get (C := RX8) (T := TX8) (N := 36) hx hb hts iRX8 hown hC.1 (hW.to rLV0) rfl 17 (by decide) (hts (.fieldLink RX8 48 "LogWeaveModel" "place" "[I") (List.mem_of_getElem? (i := 9) (by decide +kernel))) rfl (v := .ref (bd 13 0)) rfl dX8_counts_72 ?_
          refine lv_iload_n hx hb dX8_counts_75 rfl (lv_at hl 2 rfl) ?_
          refine r_iald hx hb hC.1 (hW.to rLV13) 1 rfl (i := a) (by omega) (by decide) (v := nI (ρ 146 a) - 1) rfl dX8_counts_76 ?_
          refine lv_iconst (v := -1) hx hb dX8_counts_77 (by decide) ?_
          refine q_eqP hx hb (q_m0 (hB _ _)) dX8_counts_78 (tgt := 105) (by decide) (fun g10 => ?_) (fun g10 => ?_)
          · skip
            refine lv_iconst (v := nI 1) hx hb dX8_counts_105 (by decide) ?_
            refine lv_goto (tgt := 110) hx hb dX8_counts_106 (by decide) ?_
            exact W.zret (v := nI 1) hx hb hr rfl (fun t ht _ => ⟨by rw [qB_t (show (ρ 69 l0 ≠ 100 ∧ ρ 1 0 - ρ 67 l0 < ρ 129 a ∧ ρ 64 l0 = ρ 144 a ∧ ρ 145 a ≤ ρ 65 l0 ∧ (ρ 146 a = 0 ∨ ρ (80 + (ρ 146 a - 1)) l0 = ρ 147 a)) from by omega)], ht⟩) hS.2.2 dX8_counts_110
          · skip
            refine lv_aload_n hx hb dX8_counts_81 rfl (lv_at hl 1 rfl) ?_
            refine q_get (C := RX8) (T := TX8) (N := 36) hx hb hts iRX8 hown hC.1 (hW.to rLV0) rfl 5 (by decide) (hts (.fieldLink RX8 16 "LogWeaveModel" "word" "[I") (List.mem_of_getElem? (i := 10) (by decide +kernel))) rfl (v := .ref (bd 3 0)) rfl dX8_counts_82 ?_
            refine lv_iconst (v := nI 3) hx hb dX8_counts_85 (by decide) ?_
            refine lv_iload_n hx hb dX8_counts_86 rfl (lv_at hl 3 rfl) ?_
            refine lv_imul hx hb dX8_counts_87 ?_
            refine q_ti (pk_mul 3 l0) ?_
            refine lv_aload_n hx hb dX8_counts_88 rfl (lv_at hl 1 rfl) ?_
            refine q_get (C := RX8) (T := TX8) (N := 36) hx hb hts iRX8 hown hC.1 (hW.to rLV0) rfl 17 (by decide) (hts (.fieldLink RX8 48 "LogWeaveModel" "place" "[I") (List.mem_of_getElem? (i := 9) (by decide +kernel))) rfl (v := .ref (bd 13 0)) rfl dX8_counts_89 ?_
            refine lv_iload_n hx hb dX8_counts_92 rfl (lv_at hl 2 rfl) ?_
            refine r_iald hx hb hC.1 (hW.to rLV13) 1 rfl (i := a) (by omega) (by decide) (v := nI (ρ 146 a) - 1) rfl dX8_counts_93 ?_
            refine q_ti (q_pred (by omega)) ?_
            refine lv_iadd hx hb dX8_counts_94 ?_
            refine q_ti (nI_add (3 * l0) (ρ 146 a - 1)) ?_
            refine r_iald hx hb hC.1 (hW.to rLV3) 1 rfl (i := ((3 * l0) + (ρ 146 a - 1))) (by omega) (by decide) (v := nI (ρ (80 + (ρ 146 a - 1)) l0)) (by show nI (ρ (80 + ((3 * l0) + (ρ 146 a - 1)) % 3) (((3 * l0) + (ρ 146 a - 1)) / 3)) = _; rw [show ((3 * l0) + (ρ 146 a - 1)) % 3 = (ρ 146 a - 1) by omega, show ((3 * l0) + (ρ 146 a - 1)) / 3 = l0 by omega]) dX8_counts_95 ?_
            refine lv_aload_n hx hb dX8_counts_96 rfl (lv_at hl 1 rfl) ?_
            refine q_get (C := RX8) (T := TX8) (N := 36) hx hb hts iRX8 hown hC.1 (hW.to rLV0) rfl 18 (by decide) (hts (.fieldLink RX8 51 "LogWeaveModel" "wanted" "[I") (List.mem_of_getElem? (i := 11) (by decide +kernel))) rfl (v := .ref (bd 14 0)) rfl dX8_counts_97 ?_
            refine lv_iload_n hx hb dX8_counts_100 rfl (lv_at hl 2 rfl) ?_
            refine r_iald hx hb hC.1 (hW.to rLV14) 1 rfl (i := a) (by omega) (by decide) (v := nI (ρ 147 a)) rfl dX8_counts_101 ?_
            refine q_ne (tgt := 109) hx hb (q31 (hB _ _)) (q31 (hB _ _)) dX8_counts_102 (by decide) (fun g11 => ?_) (fun g11 => ?_)
            · skip
              refine lv_iconst (v := nI 0) hx hb dX8_counts_109 (by decide) ?_
              exact W.zret (v := nI 0) hx hb hr rfl (fun t ht _ => ⟨by rw [qB_f (show ¬ (ρ 69 l0 ≠ 100 ∧ ρ 1 0 - ρ 67 l0 < ρ 129 a ∧ ρ 64 l0 = ρ 144 a ∧ ρ 145 a ≤ ρ 65 l0 ∧ (ρ 146 a = 0 ∨ ρ (80 + (ρ 146 a - 1)) l0 = ρ 147 a)) from by omega)], ht⟩) hS.2.2 dX8_counts_110
            · skip
              refine lv_iconst (v := nI 1) hx hb dX8_counts_105 (by decide) ?_
              refine lv_goto (tgt := 110) hx hb dX8_counts_106 (by decide) ?_
              exact W.zret (v := nI 1) hx hb hr rfl (fun t ht _ => ⟨by rw [qB_t (show (ρ 69 l0 ≠ 100 ∧ ρ 1 0 - ρ 67 l0 < ρ 129 a ∧ ρ 64 l0 = ρ 144 a ∧ ρ 145 a ≤ ρ 65 l0 ∧ (ρ 146 a = 0 ∨ ρ (80 + (ρ 146 a - 1)) l0 = ρ 147 a)) from by omega)], ht⟩) hS.2.2 dX8_counts_110
set_option maxHeartbeats 4000000 in
set_option maxRecDepth 100000 in
theorem m_rcountNow (l : Launch) (G : QG) (A : Nat → Prop) (ρ bd : QSt) (hF : rWF ρ) (a : Nat) (ha : a < ρ 0 2) : Met l yX8_countNow wsX8_countNow ({ frames := 1, cells := 0, slots := 0, locals := 23 } : Room) (rR G A ρ bd [.ref (bd 0 0), .int (nI a)]) (qPV (some (.int (nI (qcnt ρ a))))) 0 0 (fun _ => False) := by
  refine Met.ofW (cc := cX8_countNow) (maxL := 4) (ret := (some .int)) (by decide) rfl ?_
  intro p e s m args below meth c s₁ B hml hv
  obtain ⟨rfl, hC, hW⟩ := hv
  have hx := B.exec
  have hb := B.bytes
  have hr := B.returns
  have hts := atoms_spec (ws := wsX8_countNow) B.pre
  have hown : s.vm.findClass RX8 = some m.cls := findClass_of_methodNamed B.named
  have hlocks := B.notSynchronized
  have hB := hF.1
  have hn := hF.n
  have hS : va_S (fun _ => False) s.heap s.heap [] := va_S.rf
  have hl := lv_entry ([.ref (bd 0 0), .int (nI a)]) (n := 4) (Nat.le_of_ble_eq_true rfl)
  rw [lg_entry_eq]
  generalize (lg_sl ([.ref (bd 0 0), .int (nI a)]) ++ List.replicate (4 - (lg_sl ([.ref (bd 0 0), .int (nI a)])).length) Slot.unset).toArray = ls at hl ⊢
  have hl : lv_has ls 4 [(0, .ref (bd 0 0)), (1, .int (nI a))] := hl
  have iRX8 : ∀ w ∈ wsX80, w ∈ wsX8_countNow := by decide +kernel
  refine lv_iconst (v := nI 0) hx hb dX8_countNow_0 (by decide) ?_
  refine lv_istore_n (lv' := [(2, .int (nI 0)), (0, .ref (bd 0 0)), (1, .int (nI a))]) hx hb dX8_countNow_1 rfl hl (by decide) rfl (fun ls hl => ?_)
  refine lv_iconst (v := nI 0) hx hb dX8_countNow_2 (by decide) ?_
  refine lv_istore_n (lv' := [(3, .int (nI 0)), (2, .int (nI 0)), (0, .ref (bd 0 0)), (1, .int (nI a))]) hx hb dX8_countNow_3 rfl hl (by decide) rfl (fun ls hl => ?_)
  refine q_up (ρ 0 0) (fun i H9 locs ls => H9 = s.heap ∧ va_S (fun _ => False) s.heap H9 locs ∧ ∃ (v : Nat), (v = qsum (fun l => qB (qcn ρ a l)) i) ∧ lv_has ls 4 [(0, .ref (bd 0 0)), (1, .int (nI a)), (2, .int (nI v)), (3, .int (nI i))]) ?_ ?_ (i0 := 0) (Nat.zero_le _) ⟨rfl, hS, 0, rfl, lv_sub hl [2, 3, 1, 0] rfl⟩
  · rintro _ locs ls ⟨rfl, hS, v, e_v, hl⟩
    refine lv_iload_n hx hb dX8_countNow_4 rfl (lv_at hl 3 rfl) ?_
    refine lv_aload_n hx hb dX8_countNow_5 rfl (lv_at hl 0 rfl) ?_
    refine q_get (C := RX8) (T := TX8) (N := 36) hx hb hts iRX8 hown hC.1 (hW.to rLV0) rfl 2 (by decide) (hts (.fieldLink RX8 104 "LogWeaveModel" "lines" "I") (List.mem_of_getElem? (i := 1) (by decide +kernel))) rfl (v := .int (nI (ρ 0 0))) rfl dX8_countNow_6 ?_
    refine q_ge (tgt := 35) hx hb (q31 (hB _ _)) (q31 (hB _ _)) dX8_countNow_9 (by decide) (fun g1 => ?_) (fun g1 => (by omega))
    refine lv_iload_n hx hb dX8_countNow_35 rfl (lv_at hl 2 rfl) ?_
    exact W.iret hx hb hr (fun t ht _ => ⟨by rw [e_v]; first | done | rfl, ht⟩) hS.2.2 dX8_countNow_36
  · rintro i _ locs ls hi ⟨rfl, hS, v, e_v, hl⟩ ih
    refine lv_iload_n hx hb dX8_countNow_4 rfl (lv_at hl 3 rfl) ?_
    refine lv_aload_n hx hb dX8_countNow_5 rfl (lv_at hl 0 rfl) ?_
    refine q_get (C := RX8) (T := TX8) (N := 36) hx hb hts iRX8 hown hC.1 (hW.to rLV0) rfl 2 (by decide) (hts (.fieldLink RX8 104 "LogWeaveModel" "lines" "I") (List.mem_of_getElem? (i := 1) (by decide +kernel))) rfl (v := .int (nI (ρ 0 0))) rfl dX8_countNow_6 ?_
    refine q_ge (tgt := 35) hx hb (by omega) (q31 (hB _ _)) dX8_countNow_9 (by decide) (fun g2 => (by omega)) (fun g2 => ?_)
    refine lv_iload_n hx hb dX8_countNow_12 rfl (lv_at hl 2 rfl) ?_
    refine lv_aload_n hx hb dX8_countNow_13 rfl (lv_at hl 0 rfl) ?_
    refine lv_iload_n hx hb dX8_countNow_14 rfl (lv_at hl 1 rfl) ?_
    refine lv_iload_n hx hb dX8_countNow_15 rfl (lv_at hl 3 rfl) ?_
    refine q_v (va_runV (As := [.int (nI a), .int (nI i)]) (rest := [.int (nI v)]) ⟨hx, hb, hml, hown, hts⟩ (m_rcounts l G A ρ bd hF a i ha hi) (cwV 2 hts gX8_countNow_X8_counts rfl rfl rfl (by decide +kernel) ⟨Nat.le_of_ble_eq_true rfl, Nat.le_of_ble_eq_true rfl⟩) ⟨rR.blind, qrecv hC (hW.to rLV0) rfl, rR.pre hC hW⟩ rfl rfl hl.1 rfl (lv_room (Nat.le_of_ble_eq_true rfl)) dX8_countNow_16 ⟨Nat.le_of_ble_eq_true rfl, Nat.le_of_ble_eq_true rfl⟩) hS (fun _ h => h.elim) (fun locs hS => ?_)
    refine q_eq0 (tgt := 26) hx hb q_31B dX8_countNow_19 (by decide) (fun g3 => ?_) (fun g3 => ?_)
    · skip
      refine lv_iconst (v := nI 0) hx hb dX8_countNow_26 (by decide) ?_
      refine lv_iadd hx hb dX8_countNow_27 ?_
      refine q_ti (nI_add v 0) ?_
      refine lv_istore_n (lv' := [(2, .int (nI (v + 0))), (0, .ref (bd 0 0)), (1, .int (nI a)), (3, .int (nI i))]) hx hb dX8_countNow_28 rfl hl (by decide) rfl (fun ls hl => ?_)
      refine lv_iinc (v := nI (i + 1)) (lv' := [(3, .int (nI (i + 1))), (2, .int (nI (v + 0))), (0, .ref (bd 0 0)), (1, .int (nI a))]) hx hb dX8_countNow_29 hl (k := 3) rfl (nI_1 i) (by decide) rfl (fun ls hl => ?_)
      refine lv_goto (tgt := 4) hx hb dX8_countNow_32 (by decide) ?_
      exact ih _ locs ls ⟨rfl, hS, v, by rw [e_v, qsum]; have := qB_le (p := qcn ρ a i); omega, lv_sub hl [2, 3, 1, 0] rfl⟩
    · skip
      refine lv_iconst (v := nI 1) hx hb dX8_countNow_22 (by decide) ?_
      refine lv_goto (tgt := 27) hx hb dX8_countNow_23 (by decide) ?_
      refine lv_iadd hx hb dX8_countNow_27 ?_
      refine q_ti (nI_add v 1) ?_
      refine lv_istore_n (lv' := [(2, .int (nI (v + 1))), (0, .ref (bd 0 0)), (1, .int (nI a)), (3, .int (nI i))]) hx hb dX8_countNow_28 rfl hl (by decide) rfl (fun ls hl => ?_)
      refine lv_iinc (v := nI (i + 1)) (lv' := [(3, .int (nI (i + 1))), (2, .int (nI (v + 1))), (0, .ref (bd 0 0)), (1, .int (nI a))]) hx hb dX8_countNow_29 hl (k := 3) rfl (nI_1 i) (by decide) rfl (fun ls hl => ?_)
      refine lv_goto (tgt := 4) hx hb dX8_countNow_32 (by decide) ?_
      exact ih _ locs ls ⟨rfl, hS, (v + 1), by rw [e_v, qsum]; have := qB_le (p := qcn ρ a i); omega, lv_sub hl [2, 3, 1, 0] rfl⟩
set_option maxHeartbeats 4000000 in
set_option maxRecDepth 100000 in
theorem m_rkeptNow (l : Launch) (G : QG) (A : Nat → Prop) (ρ bd : QSt) (hF : rWF ρ) (s0 : Nat) (hs0 : s0 < 1073741824) : Met l yX8_keptNow wsX8_keptNow ({ frames := 0, cells := 0, slots := 0, locals := 0 } : Room) (rR G A ρ bd [.ref (bd 0 0), .int (nI s0)]) (qPV (some (.int (nI (qkept ρ s0))))) 0 0 (fun _ => False) := by
  refine Met.ofW (cc := cX8_keptNow) (maxL := 4) (ret := (some .int)) (by decide) rfl ?_
  intro p e s m args below meth c s₁ B hml hv
  obtain ⟨rfl, hC, hW⟩ := hv
  have hx := B.exec
  have hb := B.bytes
  have hr := B.returns
  have hts := atoms_spec (ws := wsX8_keptNow) B.pre
  have hown : s.vm.findClass RX8 = some m.cls := findClass_of_methodNamed B.named
  have hlocks := B.notSynchronized
  have hB := hF.1
  have hn := hF.n
  have hS : va_S (fun _ => False) s.heap s.heap [] := va_S.rf
  have hl := lv_entry ([.ref (bd 0 0), .int (nI s0)]) (n := 4) (Nat.le_of_ble_eq_true rfl)
  rw [lg_entry_eq]
  generalize (lg_sl ([.ref (bd 0 0), .int (nI s0)]) ++ List.replicate (4 - (lg_sl ([.ref (bd 0 0), .int (nI s0)])).length) Slot.unset).toArray = ls at hl ⊢
  have hl : lv_has ls 4 [(0, .ref (bd 0 0)), (1, .int (nI s0))] := hl
  have iRX8 : ∀ w ∈ wsX80, w ∈ wsX8_keptNow := by decide +kernel
  refine lv_iconst (v := nI 0) hx hb dX8_keptNow_0 (by decide) ?_
  refine lv_istore_n (lv' := [(2, .int (nI 0)), (0, .ref (bd 0 0)), (1, .int (nI s0))]) hx hb dX8_keptNow_1 rfl hl (by decide) rfl (fun ls hl => ?_)
  refine lv_iconst (v := nI 0) hx hb dX8_keptNow_2 (by decide) ?_
  refine lv_istore_n (lv' := [(3, .int (nI 0)), (2, .int (nI 0)), (0, .ref (bd 0 0)), (1, .int (nI s0))]) hx hb dX8_keptNow_3 rfl hl (by decide) rfl (fun ls hl => ?_)
  refine q_up (ρ 0 0) (fun i H9 locs ls => H9 = s.heap ∧ va_S (fun _ => False) s.heap H9 locs ∧ ∃ (v : Nat), (v = qsum (qkp ρ s0) i) ∧ lv_has ls 4 [(0, .ref (bd 0 0)), (1, .int (nI s0)), (2, .int (nI v)), (3, .int (nI i))]) ?_ ?_ (i0 := 0) (Nat.zero_le _) ⟨rfl, hS, 0, rfl, lv_sub hl [2, 3, 1, 0] rfl⟩
  · rintro _ locs ls ⟨rfl, hS, v, e_v, hl⟩
    refine lv_iload_n hx hb dX8_keptNow_4 rfl (lv_at hl 3 rfl) ?_
    refine lv_aload_n hx hb dX8_keptNow_5 rfl (lv_at hl 0 rfl) ?_
    refine q_get (C := RX8) (T := TX8) (N := 36) hx hb hts iRX8 hown hC.1 (hW.to rLV0) rfl 2 (by decide) (hts (.fieldLink RX8 104 "LogWeaveModel" "lines" "I") (List.mem_of_getElem? (i := 1) (by decide +kernel))) rfl (v := .int (nI (ρ 0 0))) rfl dX8_keptNow_6 ?_
    refine q_ge (tgt := 52) hx hb (q31 (hB _ _)) (q31 (hB _ _)) dX8_keptNow_9 (by decide) (fun g1 => ?_) (fun g1 => (by omega))
    refine lv_iload_n hx hb dX8_keptNow_52 rfl (lv_at hl 2 rfl) ?_
    exact W.iret hx hb hr (fun t ht _ => ⟨by rw [e_v]; first | done | rfl, ht⟩) hS.2.2 dX8_keptNow_53
  · rintro i _ locs ls hi ⟨rfl, hS, v, e_v, hl⟩ ih
    refine lv_iload_n hx hb dX8_keptNow_4 rfl (lv_at hl 3 rfl) ?_
    refine lv_aload_n hx hb dX8_keptNow_5 rfl (lv_at hl 0 rfl) ?_
    refine q_get (C := RX8) (T := TX8) (N := 36) hx hb hts iRX8 hown hC.1 (hW.to rLV0) rfl 2 (by decide) (hts (.fieldLink RX8 104 "LogWeaveModel" "lines" "I") (List.mem_of_getElem? (i := 1) (by decide +kernel))) rfl (v := .int (nI (ρ 0 0))) rfl dX8_keptNow_6 ?_
    refine q_ge (tgt := 52) hx hb (by omega) (q31 (hB _ _)) dX8_keptNow_9 (by decide) (fun g2 => (by omega)) (fun g2 => ?_)
    refine lv_iload_n hx hb dX8_keptNow_12 rfl (lv_at hl 2 rfl) ?_
    refine lv_aload_n hx hb dX8_keptNow_13 rfl (lv_at hl 0 rfl) ?_
    refine q_get (C := RX8) (T := TX8) (N := 36) hx hb hts iRX8 hown hC.1 (hW.to rLV0) rfl 3 (by decide) (hts (.fieldLink RX8 7 "LogWeaveModel" "source" "[I") (List.mem_of_getElem? (i := 2) (by decide +kernel))) rfl (v := .ref (bd 1 0)) rfl dX8_keptNow_14 ?_
    refine lv_iload_n hx hb dX8_keptNow_17 rfl (lv_at hl 3 rfl) ?_
    refine r_iald hx hb hC.1 (hW.to rLV1) 1 rfl (i := i) (by omega) (by decide) (v := nI (ρ 64 i)) rfl dX8_keptNow_18 ?_
    refine lv_iload_n hx hb dX8_keptNow_19 rfl (lv_at hl 1 rfl) ?_
    refine q_ne (tgt := 43) hx hb (q31 (hB _ _)) (q31 hs0) dX8_keptNow_20 (by decide) (fun g3 => ?_) (fun g3 => ?_)
    · skip
      refine lv_iconst (v := nI 0) hx hb dX8_keptNow_43 (by decide) ?_
      refine lv_iadd hx hb dX8_keptNow_44 ?_
      refine q_ti (nI_add v 0) ?_
      refine lv_istore_n (lv' := [(2, .int (nI (v + 0))), (0, .ref (bd 0 0)), (1, .int (nI s0)), (3, .int (nI i))]) hx hb dX8_keptNow_45 rfl hl (by decide) rfl (fun ls hl => ?_)
      refine lv_iinc (v := nI (i + 1)) (lv' := [(3, .int (nI (i + 1))), (2, .int (nI (v + 0))), (0, .ref (bd 0 0)), (1, .int (nI s0))]) hx hb dX8_keptNow_46 hl (k := 3) rfl (nI_1 i) (by decide) rfl (fun ls hl => ?_)
      refine lv_goto (tgt := 4) hx hb dX8_keptNow_49 (by decide) ?_
      exact ih _ locs ls ⟨rfl, hS, (v + 0), by rw [e_v, qsum]; unfold qkp; split <;> omega, lv_sub hl [2, 3, 1, 0] rfl⟩
    · skip
      refine lv_aload_n hx hb dX8_keptNow_23 rfl (lv_at hl 0 rfl) ?_
      refine q_get (C := RX8) (T := TX8) (N := 36) hx hb hts iRX8 hown hC.1 (hW.to rLV0) rfl 8 (by decide) (hts (.fieldLink RX8 25 "LogWeaveModel" "state" "[C") (List.mem_of_getElem? (i := 3) (by decide +kernel))) rfl (v := .ref (bd 6 0)) rfl dX8_keptNow_24 ?_
      refine lv_iload_n hx hb dX8_keptNow_27 rfl (lv_at hl 3 rfl) ?_
      refine r_cald hx hb hC.1 (hW.to rLV6) 3 rfl (i := i) (by omega) (by decide) (v := nI (ρ 69 i)) rfl dX8_keptNow_28 ?_
      refine lv_bipush (v := nI 107) hx hb dX8_keptNow_29 (by decide) ?_
      refine q_ne (tgt := 43) hx hb (q31 (hB _ _)) (by decide) dX8_keptNow_31 (by decide) (fun g4 => ?_) (fun g4 => ?_)
      · skip
        refine lv_iconst (v := nI 0) hx hb dX8_keptNow_43 (by decide) ?_
        refine lv_iadd hx hb dX8_keptNow_44 ?_
        refine q_ti (nI_add v 0) ?_
        refine lv_istore_n (lv' := [(2, .int (nI (v + 0))), (0, .ref (bd 0 0)), (1, .int (nI s0)), (3, .int (nI i))]) hx hb dX8_keptNow_45 rfl hl (by decide) rfl (fun ls hl => ?_)
        refine lv_iinc (v := nI (i + 1)) (lv' := [(3, .int (nI (i + 1))), (2, .int (nI (v + 0))), (0, .ref (bd 0 0)), (1, .int (nI s0))]) hx hb dX8_keptNow_46 hl (k := 3) rfl (nI_1 i) (by decide) rfl (fun ls hl => ?_)
        refine lv_goto (tgt := 4) hx hb dX8_keptNow_49 (by decide) ?_
        exact ih _ locs ls ⟨rfl, hS, (v + 0), by rw [e_v, qsum]; unfold qkp; split <;> omega, lv_sub hl [2, 3, 1, 0] rfl⟩
      · skip
        refine lv_aload_n hx hb dX8_keptNow_34 rfl (lv_at hl 0 rfl) ?_
        refine q_get (C := RX8) (T := TX8) (N := 36) hx hb hts iRX8 hown hC.1 (hW.to rLV0) rfl 6 (by decide) (hts (.fieldLink RX8 19 "LogWeaveModel" "bytes" "[I") (List.mem_of_getElem? (i := 4) (by decide +kernel))) rfl (v := .ref (bd 4 0)) rfl dX8_keptNow_35 ?_
        refine lv_iload_n hx hb dX8_keptNow_38 rfl (lv_at hl 3 rfl) ?_
        refine r_iald hx hb hC.1 (hW.to rLV4) 1 rfl (i := i) (by omega) (by decide) (v := nI (ρ 66 i)) rfl dX8_keptNow_39 ?_
        refine lv_goto (tgt := 44) hx hb dX8_keptNow_40 (by decide) ?_
        refine lv_iadd hx hb dX8_keptNow_44 ?_
        refine q_ti (nI_add v (ρ 66 i)) ?_
        refine lv_istore_n (lv' := [(2, .int (nI (v + (ρ 66 i)))), (0, .ref (bd 0 0)), (1, .int (nI s0)), (3, .int (nI i))]) hx hb dX8_keptNow_45 rfl hl (by decide) rfl (fun ls hl => ?_)
        refine lv_iinc (v := nI (i + 1)) (lv' := [(3, .int (nI (i + 1))), (2, .int (nI (v + (ρ 66 i)))), (0, .ref (bd 0 0)), (1, .int (nI s0))]) hx hb dX8_keptNow_46 hl (k := 3) rfl (nI_1 i) (by decide) rfl (fun ls hl => ?_)
        refine lv_goto (tgt := 4) hx hb dX8_keptNow_49 (by decide) ?_
        exact ih _ locs ls ⟨rfl, hS, (v + ρ 66 i), by rw [e_v, qsum]; unfold qkp; split <;> omega, lv_sub hl [2, 3, 1, 0] rfl⟩
set_option maxHeartbeats 4000000 in
set_option maxRecDepth 100000 in
theorem m_rcount (l : Launch) (G : QG) (A : Nat → Prop) (ρ bd : QSt) (hF : rWF ρ) (s0 : Nat) (hs0 : s0 < 1073741824) (h0 r0 : Nat) (hh0 : h0 < 1073741824) (hr0 : r0 < 1073741824) : Met l yX8_count wsX8_count ({ frames := 0, cells := 0, slots := 0, locals := 0 } : Room) (rR G A ρ bd [.ref (bd 0 0), .int (nI s0), .int (nI h0), .int (nI r0)]) (qPV (some (.int (nI (qsum (fun l => qB (ρ 64 l = s0 ∧ ρ 69 l = h0 ∧ r0 ≤ ρ 65 l)) (ρ 0 0)))))) 0 0 (fun _ => False) := by
  refine Met.ofW (cc := cX8_count) (maxL := 6) (ret := (some .int)) (by decide) rfl ?_
  intro p e s m args below meth c s₁ B hml hv
  obtain ⟨rfl, hC, hW⟩ := hv
  have hx := B.exec
  have hb := B.bytes
  have hr := B.returns
  have hts := atoms_spec (ws := wsX8_count) B.pre
  have hown : s.vm.findClass RX8 = some m.cls := findClass_of_methodNamed B.named
  have hlocks := B.notSynchronized
  have hB := hF.1
  have hn := hF.n
  have hS : va_S (fun _ => False) s.heap s.heap [] := va_S.rf
  have hl := lv_entry ([.ref (bd 0 0), .int (nI s0), .int (nI h0), .int (nI r0)]) (n := 6) (Nat.le_of_ble_eq_true rfl)
  rw [lg_entry_eq]
  generalize (lg_sl ([.ref (bd 0 0), .int (nI s0), .int (nI h0), .int (nI r0)]) ++ List.replicate (6 - (lg_sl ([.ref (bd 0 0), .int (nI s0), .int (nI h0), .int (nI r0)])).length) Slot.unset).toArray = ls at hl ⊢
  have hl : lv_has ls 6 [(0, .ref (bd 0 0)), (1, .int (nI s0)), (2, .int (nI h0)), (3, .int (nI r0))] := hl
  have iRX8 : ∀ w ∈ wsX80, w ∈ wsX8_count := by decide +kernel
  refine lv_iconst (v := nI 0) hx hb dX8_count_0 (by decide) ?_
  refine lv_istore (lv' := [(4, .int (nI 0)), (0, .ref (bd 0 0)), (1, .int (nI s0)), (2, .int (nI h0)), (3, .int (nI r0))]) hx hb dX8_count_1 hl (by decide) rfl (fun ls hl => ?_)
  refine lv_iconst (v := nI 0) hx hb dX8_count_3 (by decide) ?_
  refine lv_istore (lv' := [(5, .int (nI 0)), (4, .int (nI 0)), (0, .ref (bd 0 0)), (1, .int (nI s0)), (2, .int (nI h0)), (3, .int (nI r0))]) hx hb dX8_count_4 hl (by decide) rfl (fun ls hl => ?_)
  refine q_up (ρ 0 0) (fun i H9 locs ls => H9 = s.heap ∧ va_S (fun _ => False) s.heap H9 locs ∧ ∃ (v : Nat), (v = qsum (fun l => qB (ρ 64 l = s0 ∧ ρ 69 l = h0 ∧ r0 ≤ ρ 65 l)) i) ∧ lv_has ls 6 [(0, .ref (bd 0 0)), (1, .int (nI s0)), (2, .int (nI h0)), (3, .int (nI r0)), (4, .int (nI v)), (5, .int (nI i))]) ?_ ?_ (i0 := 0) (Nat.zero_le _) ⟨rfl, hS, 0, rfl, lv_sub hl [2, 3, 4, 5, 1, 0] rfl⟩
  · rintro _ locs ls ⟨rfl, hS, v, e_v, hl⟩
    refine lv_iload hx hb dX8_count_6 (lv_at hl 5 rfl) ?_
    refine lv_aload_n hx hb dX8_count_8 rfl (lv_at hl 0 rfl) ?_
    refine q_get (C := RX8) (T := TX8) (N := 36) hx hb hts iRX8 hown hC.1 (hW.to rLV0) rfl 2 (by decide) (hts (.fieldLink RX8 104 "LogWeaveModel" "lines" "I") (List.mem_of_getElem? (i := 1) (by decide +kernel))) rfl (v := .int (nI (ρ 0 0))) rfl dX8_count_9 ?_
    refine q_ge (tgt := 69) hx hb (q31 (hB _ _)) (q31 (hB _ _)) dX8_count_12 (by decide) (fun g1 => ?_) (fun g1 => (by omega))
    refine lv_iload hx hb dX8_count_69 (lv_at hl 4 rfl) ?_
    exact W.iret hx hb hr (fun t ht _ => ⟨by rw [e_v]; first | done | rfl, ht⟩) hS.2.2 dX8_count_71
  · rintro i _ locs ls hi ⟨rfl, hS, v, e_v, hl⟩ ih
    refine lv_iload hx hb dX8_count_6 (lv_at hl 5 rfl) ?_
    refine lv_aload_n hx hb dX8_count_8 rfl (lv_at hl 0 rfl) ?_
    refine q_get (C := RX8) (T := TX8) (N := 36) hx hb hts iRX8 hown hC.1 (hW.to rLV0) rfl 2 (by decide) (hts (.fieldLink RX8 104 "LogWeaveModel" "lines" "I") (List.mem_of_getElem? (i := 1) (by decide +kernel))) rfl (v := .int (nI (ρ 0 0))) rfl dX8_count_9 ?_
    refine q_ge (tgt := 69) hx hb (by omega) (q31 (hB _ _)) dX8_count_12 (by decide) (fun g2 => (by omega)) (fun g2 => ?_)
    refine lv_iload hx hb dX8_count_15 (lv_at hl 4 rfl) ?_
    refine lv_iload_n hx hb dX8_count_17 rfl (lv_at hl 1 rfl) ?_
    refine lv_iconst (v := -1) hx hb dX8_count_18 (by decide) ?_
    refine q_eqP hx hb (r_nm1 hs0) dX8_count_19 (tgt := 33) (by decide) (fun g3 => absurd g3 (by omega)) (fun g3 => ?_)
    refine lv_aload_n hx hb dX8_count_22 rfl (lv_at hl 0 rfl) ?_
    refine q_get (C := RX8) (T := TX8) (N := 36) hx hb hts iRX8 hown hC.1 (hW.to rLV0) rfl 3 (by decide) (hts (.fieldLink RX8 7 "LogWeaveModel" "source" "[I") (List.mem_of_getElem? (i := 2) (by decide +kernel))) rfl (v := .ref (bd 1 0)) rfl dX8_count_23 ?_
    refine lv_iload hx hb dX8_count_26 (lv_at hl 5 rfl) ?_
    refine r_iald hx hb hC.1 (hW.to rLV1) 1 rfl (i := i) (by omega) (by decide) (v := nI (ρ 64 i)) rfl dX8_count_28 ?_
    refine lv_iload_n hx hb dX8_count_29 rfl (lv_at hl 1 rfl) ?_
    refine q_ne (tgt := 59) hx hb (q31 (hB _ _)) (q31 hs0) dX8_count_30 (by decide) (fun g4 => ?_) (fun g4 => ?_)
    · skip
      refine lv_iconst (v := nI 0) hx hb dX8_count_59 (by decide) ?_
      refine lv_iadd hx hb dX8_count_60 ?_
      refine q_ti (nI_add v 0) ?_
      refine lv_istore (lv' := [(4, .int (nI (v + 0))), (0, .ref (bd 0 0)), (1, .int (nI s0)), (2, .int (nI h0)), (3, .int (nI r0)), (5, .int (nI i))]) hx hb dX8_count_61 hl (by decide) rfl (fun ls hl => ?_)
      refine lv_iinc (v := nI (i + 1)) (lv' := [(5, .int (nI (i + 1))), (4, .int (nI (v + 0))), (0, .ref (bd 0 0)), (1, .int (nI s0)), (2, .int (nI h0)), (3, .int (nI r0))]) hx hb dX8_count_63 hl (k := 5) rfl (nI_1 i) (by decide) rfl (fun ls hl => ?_)
      refine lv_goto (tgt := 6) hx hb dX8_count_66 (by decide) ?_
      exact ih _ locs ls ⟨rfl, hS, (v + 0), by rw [e_v, qsum]; unfold qB; split <;> omega, lv_sub hl [2, 3, 4, 5, 1, 0] rfl⟩
    · skip
      refine lv_aload_n hx hb dX8_count_33 rfl (lv_at hl 0 rfl) ?_
      refine q_get (C := RX8) (T := TX8) (N := 36) hx hb hts iRX8 hown hC.1 (hW.to rLV0) rfl 8 (by decide) (hts (.fieldLink RX8 25 "LogWeaveModel" "state" "[C") (List.mem_of_getElem? (i := 3) (by decide +kernel))) rfl (v := .ref (bd 6 0)) rfl dX8_count_34 ?_
      refine lv_iload hx hb dX8_count_37 (lv_at hl 5 rfl) ?_
      refine r_cald hx hb hC.1 (hW.to rLV6) 3 rfl (i := i) (by omega) (by decide) (v := nI (ρ 69 i)) rfl dX8_count_39 ?_
      refine lv_iload_n hx hb dX8_count_40 rfl (lv_at hl 2 rfl) ?_
      refine q_ne (tgt := 59) hx hb (q31 (hB _ _)) (q31 hh0) dX8_count_41 (by decide) (fun g5 => ?_) (fun g5 => ?_)
      · skip
        refine lv_iconst (v := nI 0) hx hb dX8_count_59 (by decide) ?_
        refine lv_iadd hx hb dX8_count_60 ?_
        refine q_ti (nI_add v 0) ?_
        refine lv_istore (lv' := [(4, .int (nI (v + 0))), (0, .ref (bd 0 0)), (1, .int (nI s0)), (2, .int (nI h0)), (3, .int (nI r0)), (5, .int (nI i))]) hx hb dX8_count_61 hl (by decide) rfl (fun ls hl => ?_)
        refine lv_iinc (v := nI (i + 1)) (lv' := [(5, .int (nI (i + 1))), (4, .int (nI (v + 0))), (0, .ref (bd 0 0)), (1, .int (nI s0)), (2, .int (nI h0)), (3, .int (nI r0))]) hx hb dX8_count_63 hl (k := 5) rfl (nI_1 i) (by decide) rfl (fun ls hl => ?_)
        refine lv_goto (tgt := 6) hx hb dX8_count_66 (by decide) ?_
        exact ih _ locs ls ⟨rfl, hS, (v + 0), by rw [e_v, qsum]; unfold qB; split <;> omega, lv_sub hl [2, 3, 4, 5, 1, 0] rfl⟩
      · skip
        refine lv_aload_n hx hb dX8_count_44 rfl (lv_at hl 0 rfl) ?_
        refine q_get (C := RX8) (T := TX8) (N := 36) hx hb hts iRX8 hown hC.1 (hW.to rLV0) rfl 4 (by decide) (hts (.fieldLink RX8 13 "LogWeaveModel" "rank" "[I") (List.mem_of_getElem? (i := 4) (by decide +kernel))) rfl (v := .ref (bd 2 0)) rfl dX8_count_45 ?_
        refine lv_iload hx hb dX8_count_48 (lv_at hl 5 rfl) ?_
        refine r_iald hx hb hC.1 (hW.to rLV2) 1 rfl (i := i) (by omega) (by decide) (v := nI (ρ 65 i)) rfl dX8_count_50 ?_
        refine lv_iload_n hx hb dX8_count_51 rfl (lv_at hl 3 rfl) ?_
        refine q_lt (tgt := 59) hx hb (q31 (hB _ _)) (q31 hr0) dX8_count_52 (by decide) (fun g6 => ?_) (fun g6 => ?_)
        · skip
          refine lv_iconst (v := nI 0) hx hb dX8_count_59 (by decide) ?_
          refine lv_iadd hx hb dX8_count_60 ?_
          refine q_ti (nI_add v 0) ?_
          refine lv_istore (lv' := [(4, .int (nI (v + 0))), (0, .ref (bd 0 0)), (1, .int (nI s0)), (2, .int (nI h0)), (3, .int (nI r0)), (5, .int (nI i))]) hx hb dX8_count_61 hl (by decide) rfl (fun ls hl => ?_)
          refine lv_iinc (v := nI (i + 1)) (lv' := [(5, .int (nI (i + 1))), (4, .int (nI (v + 0))), (0, .ref (bd 0 0)), (1, .int (nI s0)), (2, .int (nI h0)), (3, .int (nI r0))]) hx hb dX8_count_63 hl (k := 5) rfl (nI_1 i) (by decide) rfl (fun ls hl => ?_)
          refine lv_goto (tgt := 6) hx hb dX8_count_66 (by decide) ?_
          exact ih _ locs ls ⟨rfl, hS, (v + 0), by rw [e_v, qsum]; unfold qB; split <;> omega, lv_sub hl [2, 3, 4, 5, 1, 0] rfl⟩
        · skip
          refine lv_iconst (v := nI 1) hx hb dX8_count_55 (by decide) ?_
          refine lv_goto (tgt := 60) hx hb dX8_count_56 (by decide) ?_
          refine lv_iadd hx hb dX8_count_60 ?_
          refine q_ti (nI_add v 1) ?_
          refine lv_istore (lv' := [(4, .int (nI (v + 1))), (0, .ref (bd 0 0)), (1, .int (nI s0)), (2, .int (nI h0)), (3, .int (nI r0)), (5, .int (nI i))]) hx hb dX8_count_61 hl (by decide) rfl (fun ls hl => ?_)
          refine lv_iinc (v := nI (i + 1)) (lv' := [(5, .int (nI (i + 1))), (4, .int (nI (v + 1))), (0, .ref (bd 0 0)), (1, .int (nI s0)), (2, .int (nI h0)), (3, .int (nI r0))]) hx hb dX8_count_63 hl (k := 5) rfl (nI_1 i) (by decide) rfl (fun ls hl => ?_)
          refine lv_goto (tgt := 6) hx hb dX8_count_66 (by decide) ?_
          exact ih _ locs ls ⟨rfl, hS, (v + 1), by rw [e_v, qsum]; unfold qB; split <;> omega, lv_sub hl [2, 3, 4, 5, 1, 0] rfl⟩
set_option maxHeartbeats 4000000 in
set_option maxRecDepth 100000 in
theorem m_rcountA (l : Launch) (G : QG) (A : Nat → Prop) (ρ bd : QSt) (hF : rWF ρ) (h0 r0 : Nat) (hh0 : h0 < 1073741824) (hr0 : r0 < 1073741824) : Met l yX8_count wsX8_count ({ frames := 0, cells := 0, slots := 0, locals := 0 } : Room) (rR G A ρ bd [.ref (bd 0 0), .int (-1), .int (nI h0), .int (nI r0)]) (qPV (some (.int (nI (qsum (fun l => qB (ρ 69 l = h0 ∧ r0 ≤ ρ 65 l)) (ρ 0 0)))))) 0 0 (fun _ => False) := by
  refine Met.ofW (cc := cX8_count) (maxL := 6) (ret := (some .int)) (by decide) rfl ?_
  intro p e s m args below meth c s₁ B hml hv
  obtain ⟨rfl, hC, hW⟩ := hv
  have hx := B.exec
  have hb := B.bytes
  have hr := B.returns
  have hts := atoms_spec (ws := wsX8_count) B.pre
  have hown : s.vm.findClass RX8 = some m.cls := findClass_of_methodNamed B.named
  have hlocks := B.notSynchronized
  have hB := hF.1
  have hn := hF.n
  have hS : va_S (fun _ => False) s.heap s.heap [] := va_S.rf
  have hl := lv_entry ([.ref (bd 0 0), .int (-1), .int (nI h0), .int (nI r0)]) (n := 6) (Nat.le_of_ble_eq_true rfl)
  rw [lg_entry_eq]
  generalize (lg_sl ([.ref (bd 0 0), .int (-1), .int (nI h0), .int (nI r0)]) ++ List.replicate (6 - (lg_sl ([.ref (bd 0 0), .int (-1), .int (nI h0), .int (nI r0)])).length) Slot.unset).toArray = ls at hl ⊢
  have hl : lv_has ls 6 [(0, .ref (bd 0 0)), (1, .int (-1)), (2, .int (nI h0)), (3, .int (nI r0))] := hl
  have iRX8 : ∀ w ∈ wsX80, w ∈ wsX8_count := by decide +kernel
  refine lv_iconst (v := nI 0) hx hb dX8_count_0 (by decide) ?_
  refine lv_istore (lv' := [(4, .int (nI 0)), (0, .ref (bd 0 0)), (1, .int (-1)), (2, .int (nI h0)), (3, .int (nI r0))]) hx hb dX8_count_1 hl (by decide) rfl (fun ls hl => ?_)
  refine lv_iconst (v := nI 0) hx hb dX8_count_3 (by decide) ?_
  refine lv_istore (lv' := [(5, .int (nI 0)), (4, .int (nI 0)), (0, .ref (bd 0 0)), (1, .int (-1)), (2, .int (nI h0)), (3, .int (nI r0))]) hx hb dX8_count_4 hl (by decide) rfl (fun ls hl => ?_)
  refine q_up (ρ 0 0) (fun i H9 locs ls => H9 = s.heap ∧ va_S (fun _ => False) s.heap H9 locs ∧ ∃ (v : Nat), (v = qsum (fun l => qB (ρ 69 l = h0 ∧ r0 ≤ ρ 65 l)) i) ∧ lv_has ls 6 [(0, .ref (bd 0 0)), (1, .int (-1)), (2, .int (nI h0)), (3, .int (nI r0)), (4, .int (nI v)), (5, .int (nI i))]) ?_ ?_ (i0 := 0) (Nat.zero_le _) ⟨rfl, hS, 0, rfl, lv_sub hl [2, 3, 4, 5, 1, 0] rfl⟩
  · rintro _ locs ls ⟨rfl, hS, v, e_v, hl⟩
    refine lv_iload hx hb dX8_count_6 (lv_at hl 5 rfl) ?_
    refine lv_aload_n hx hb dX8_count_8 rfl (lv_at hl 0 rfl) ?_
    refine q_get (C := RX8) (T := TX8) (N := 36) hx hb hts iRX8 hown hC.1 (hW.to rLV0) rfl 2 (by decide) (hts (.fieldLink RX8 104 "LogWeaveModel" "lines" "I") (List.mem_of_getElem? (i := 1) (by decide +kernel))) rfl (v := .int (nI (ρ 0 0))) rfl dX8_count_9 ?_
    refine q_ge (tgt := 69) hx hb (q31 (hB _ _)) (q31 (hB _ _)) dX8_count_12 (by decide) (fun g1 => ?_) (fun g1 => (by omega))
    refine lv_iload hx hb dX8_count_69 (lv_at hl 4 rfl) ?_
    exact W.iret hx hb hr (fun t ht _ => ⟨by rw [e_v]; first | done | rfl, ht⟩) hS.2.2 dX8_count_71
  · rintro i _ locs ls hi ⟨rfl, hS, v, e_v, hl⟩ ih
    refine lv_iload hx hb dX8_count_6 (lv_at hl 5 rfl) ?_
    refine lv_aload_n hx hb dX8_count_8 rfl (lv_at hl 0 rfl) ?_
    refine q_get (C := RX8) (T := TX8) (N := 36) hx hb hts iRX8 hown hC.1 (hW.to rLV0) rfl 2 (by decide) (hts (.fieldLink RX8 104 "LogWeaveModel" "lines" "I") (List.mem_of_getElem? (i := 1) (by decide +kernel))) rfl (v := .int (nI (ρ 0 0))) rfl dX8_count_9 ?_
    refine q_ge (tgt := 69) hx hb (by omega) (q31 (hB _ _)) dX8_count_12 (by decide) (fun g2 => (by omega)) (fun g2 => ?_)
    refine lv_iload hx hb dX8_count_15 (lv_at hl 4 rfl) ?_
    refine lv_iload_n hx hb dX8_count_17 rfl (lv_at hl 1 rfl) ?_
    refine lv_iconst (v := -1) hx hb dX8_count_18 (by decide) ?_
    refine lv_icmp_eq (tgt := 33) hx hb dX8_count_19 (by decide) (fun g3 => ?_) (fun g3 => absurd g3 (by decide))
    refine lv_aload_n hx hb dX8_count_33 rfl (lv_at hl 0 rfl) ?_
    refine q_get (C := RX8) (T := TX8) (N := 36) hx hb hts iRX8 hown hC.1 (hW.to rLV0) rfl 8 (by decide) (hts (.fieldLink RX8 25 "LogWeaveModel" "state" "[C") (List.mem_of_getElem? (i := 3) (by decide +kernel))) rfl (v := .ref (bd 6 0)) rfl dX8_count_34 ?_
    refine lv_iload hx hb dX8_count_37 (lv_at hl 5 rfl) ?_
    refine r_cald hx hb hC.1 (hW.to rLV6) 3 rfl (i := i) (by omega) (by decide) (v := nI (ρ 69 i)) rfl dX8_count_39 ?_
    refine lv_iload_n hx hb dX8_count_40 rfl (lv_at hl 2 rfl) ?_
    refine q_ne (tgt := 59) hx hb (q31 (hB _ _)) (q31 hh0) dX8_count_41 (by decide) (fun g4 => ?_) (fun g4 => ?_)
    · skip
      refine lv_iconst (v := nI 0) hx hb dX8_count_59 (by decide) ?_
      refine lv_iadd hx hb dX8_count_60 ?_
      refine q_ti (nI_add v 0) ?_
      refine lv_istore (lv' := [(4, .int (nI (v + 0))), (0, .ref (bd 0 0)), (1, .int (-1)), (2, .int (nI h0)), (3, .int (nI r0)), (5, .int (nI i))]) hx hb dX8_count_61 hl (by decide) rfl (fun ls hl => ?_)
      refine lv_iinc (v := nI (i + 1)) (lv' := [(5, .int (nI (i + 1))), (4, .int (nI (v + 0))), (0, .ref (bd 0 0)), (1, .int (-1)), (2, .int (nI h0)), (3, .int (nI r0))]) hx hb dX8_count_63 hl (k := 5) rfl (nI_1 i) (by decide) rfl (fun ls hl => ?_)
      refine lv_goto (tgt := 6) hx hb dX8_count_66 (by decide) ?_
      exact ih _ locs ls ⟨rfl, hS, (v + 0), by rw [e_v, qsum]; unfold qB; split <;> omega, lv_sub hl [2, 3, 4, 5, 1, 0] rfl⟩
    · skip
      refine lv_aload_n hx hb dX8_count_44 rfl (lv_at hl 0 rfl) ?_
      refine q_get (C := RX8) (T := TX8) (N := 36) hx hb hts iRX8 hown hC.1 (hW.to rLV0) rfl 4 (by decide) (hts (.fieldLink RX8 13 "LogWeaveModel" "rank" "[I") (List.mem_of_getElem? (i := 4) (by decide +kernel))) rfl (v := .ref (bd 2 0)) rfl dX8_count_45 ?_
      refine lv_iload hx hb dX8_count_48 (lv_at hl 5 rfl) ?_
      refine r_iald hx hb hC.1 (hW.to rLV2) 1 rfl (i := i) (by omega) (by decide) (v := nI (ρ 65 i)) rfl dX8_count_50 ?_
      refine lv_iload_n hx hb dX8_count_51 rfl (lv_at hl 3 rfl) ?_
      refine q_lt (tgt := 59) hx hb (q31 (hB _ _)) (q31 hr0) dX8_count_52 (by decide) (fun g5 => ?_) (fun g5 => ?_)
      · skip
        refine lv_iconst (v := nI 0) hx hb dX8_count_59 (by decide) ?_
        refine lv_iadd hx hb dX8_count_60 ?_
        refine q_ti (nI_add v 0) ?_
        refine lv_istore (lv' := [(4, .int (nI (v + 0))), (0, .ref (bd 0 0)), (1, .int (-1)), (2, .int (nI h0)), (3, .int (nI r0)), (5, .int (nI i))]) hx hb dX8_count_61 hl (by decide) rfl (fun ls hl => ?_)
        refine lv_iinc (v := nI (i + 1)) (lv' := [(5, .int (nI (i + 1))), (4, .int (nI (v + 0))), (0, .ref (bd 0 0)), (1, .int (-1)), (2, .int (nI h0)), (3, .int (nI r0))]) hx hb dX8_count_63 hl (k := 5) rfl (nI_1 i) (by decide) rfl (fun ls hl => ?_)
        refine lv_goto (tgt := 6) hx hb dX8_count_66 (by decide) ?_
        exact ih _ locs ls ⟨rfl, hS, (v + 0), by rw [e_v, qsum]; unfold qB; split <;> omega, lv_sub hl [2, 3, 4, 5, 1, 0] rfl⟩
      · skip
        refine lv_iconst (v := nI 1) hx hb dX8_count_55 (by decide) ?_
        refine lv_goto (tgt := 60) hx hb dX8_count_56 (by decide) ?_
        refine lv_iadd hx hb dX8_count_60 ?_
        refine q_ti (nI_add v 1) ?_
        refine lv_istore (lv' := [(4, .int (nI (v + 1))), (0, .ref (bd 0 0)), (1, .int (-1)), (2, .int (nI h0)), (3, .int (nI r0)), (5, .int (nI i))]) hx hb dX8_count_61 hl (by decide) rfl (fun ls hl => ?_)
        refine lv_iinc (v := nI (i + 1)) (lv' := [(5, .int (nI (i + 1))), (4, .int (nI (v + 1))), (0, .ref (bd 0 0)), (1, .int (-1)), (2, .int (nI h0)), (3, .int (nI r0))]) hx hb dX8_count_63 hl (k := 5) rfl (nI_1 i) (by decide) rfl (fun ls hl => ?_)
        refine lv_goto (tgt := 6) hx hb dX8_count_66 (by decide) ?_
        exact ih _ locs ls ⟨rfl, hS, (v + 1), by rw [e_v, qsum]; unfold qB; split <;> omega, lv_sub hl [2, 3, 4, 5, 1, 0] rfl⟩
set_option maxHeartbeats 4000000 in
set_option maxRecDepth 100000 in
theorem m_rfits (l : Launch) (G : QG) (A : Nat → Prop) (ρ bd : QSt) (hF : rWF ρ) (l0 p0 : Nat) (hl0 : l0 < ρ 0 0) (hp0 : p0 < ρ 0 1) : Met l yX8_fits wsX8_fits ({ frames := 0, cells := 0, slots := 0, locals := 0 } : Room) (rR G A ρ bd [.ref (bd 0 0), .int (nI l0), .int (nI p0)]) (qPV (some (.int (nI (qB (rfit ρ l0 p0 3)))))) 0 0 (fun _ => False) := by
  refine Met.ofW (cc := cX8_fits) (maxL := 5) (ret := (some .boolean)) (by decide) rfl ?_
  intro p e s m args below meth c s₁ B hml hv
  obtain ⟨rfl, hC, hW⟩ := hv
  have hx := B.exec
  have hb := B.bytes
  have hr := B.returns
  have hts := atoms_spec (ws := wsX8_fits) B.pre
  have hown : s.vm.findClass RX8 = some m.cls := findClass_of_methodNamed B.named
  have hlocks := B.notSynchronized
  have hB := hF.1
  have hn := hF.n
  have hS : va_S (fun _ => False) s.heap s.heap [] := va_S.rf
  have hl := lv_entry ([.ref (bd 0 0), .int (nI l0), .int (nI p0)]) (n := 5) (Nat.le_of_ble_eq_true rfl)
  rw [lg_entry_eq]
  generalize (lg_sl ([.ref (bd 0 0), .int (nI l0), .int (nI p0)]) ++ List.replicate (5 - (lg_sl ([.ref (bd 0 0), .int (nI l0), .int (nI p0)])).length) Slot.unset).toArray = ls at hl ⊢
  have hl : lv_has ls 5 [(0, .ref (bd 0 0)), (1, .int (nI l0)), (2, .int (nI p0))] := hl
  have iRX8 : ∀ w ∈ wsX80, w ∈ wsX8_fits := by decide +kernel
  refine lv_aload_n hx hb dX8_fits_0 rfl (lv_at hl 0 rfl) ?_
  refine q_get (C := RX8) (T := TX8) (N := 36) hx hb hts iRX8 hown hC.1 (hW.to rLV0) rfl 11 (by decide) (hts (.fieldLink RX8 32 "LogWeaveModel" "sourceOf" "[I") (List.mem_of_getElem? (i := 1) (by decide +kernel))) rfl (v := .ref (bd 8 0)) rfl dX8_fits_1 ?_
  refine lv_iload_n hx hb dX8_fits_4 rfl (lv_at hl 2 rfl) ?_
  refine r_iald hx hb hC.1 (hW.to rLV8) 1 rfl (i := p0) (by omega) (by decide) (v := nI (ρ 96 p0)) rfl dX8_fits_5 ?_
  refine lv_aload_n hx hb dX8_fits_6 rfl (lv_at hl 0 rfl) ?_
  refine q_get (C := RX8) (T := TX8) (N := 36) hx hb hts iRX8 hown hC.1 (hW.to rLV0) rfl 3 (by decide) (hts (.fieldLink RX8 7 "LogWeaveModel" "source" "[I") (List.mem_of_getElem? (i := 2) (by decide +kernel))) rfl (v := .ref (bd 1 0)) rfl dX8_fits_7 ?_
  refine lv_iload_n hx hb dX8_fits_10 rfl (lv_at hl 1 rfl) ?_
  refine r_iald hx hb hC.1 (hW.to rLV1) 1 rfl (i := l0) (by omega) (by decide) (v := nI (ρ 64 l0)) rfl dX8_fits_11 ?_
  refine q_ne (tgt := 19) hx hb (q31 (hB _ _)) (q31 (hB _ _)) dX8_fits_12 (by decide) (fun g1 => ?_) (fun g1 => ?_)
  · skip
    refine lv_iconst (v := nI 0) hx hb dX8_fits_19 (by decide) ?_
    refine lv_istore_n (lv' := [(3, .int (nI 0)), (0, .ref (bd 0 0)), (1, .int (nI l0)), (2, .int (nI p0))]) hx hb dX8_fits_20 rfl hl (by decide) rfl (fun ls hl => ?_)
    refine lv_iconst (v := nI 0) hx hb dX8_fits_21 (by decide) ?_
    refine lv_istore (lv' := [(4, .int (nI 0)), (3, .int (nI 0)), (0, .ref (bd 0 0)), (1, .int (nI l0)), (2, .int (nI p0))]) hx hb dX8_fits_22 hl (by decide) rfl (fun ls hl => ?_)
    refine q_up 3 (fun i H9 locs ls => H9 = s.heap ∧ va_S (fun _ => False) s.heap H9 locs ∧ ∃ (v : Nat), (v ≤ 1 ∧ (v = 1 ↔ rfit ρ l0 p0 i)) ∧ lv_has ls 5 [(0, .ref (bd 0 0)), (1, .int (nI l0)), (2, .int (nI p0)), (3, .int (nI v)), (4, .int (nI i))]) ?_ ?_ (i0 := 0) (Nat.zero_le _) ⟨rfl, hS, 0, ⟨Nat.zero_le 1, fun h => absurd h (by decide), fun h => absurd h.1 (by omega)⟩, lv_sub hl [2, 3, 4, 1, 0] rfl⟩
    · rintro _ locs ls ⟨rfl, hS, v, e_v, hl⟩
      refine lv_iload hx hb dX8_fits_24 (lv_at hl 4 rfl) ?_
      refine lv_iconst (v := nI 3) hx hb dX8_fits_26 (by decide) ?_
      refine q_ge (tgt := 86) hx hb (by decide) (by decide) dX8_fits_27 (by decide) (fun g2 => ?_) (fun g2 => (by omega))
      refine lv_iload_n hx hb dX8_fits_86 rfl (lv_at hl 3 rfl) ?_
      exact W.zret hx hb hr (q_nbool v e_v.1) (fun t ht _ => ⟨by rw [r_qB e_v.1 e_v.2], ht⟩) hS.2.2 dX8_fits_87
    · rintro i _ locs ls hi ⟨rfl, hS, v, e_v, hl⟩ ih
      refine lv_iload hx hb dX8_fits_24 (lv_at hl 4 rfl) ?_
      refine lv_iconst (v := nI 3) hx hb dX8_fits_26 (by decide) ?_
      refine q_ge (tgt := 86) hx hb (by omega) (by decide) dX8_fits_27 (by decide) (fun g3 => (by omega)) (fun g3 => ?_)
      refine lv_iload_n hx hb dX8_fits_30 rfl (lv_at hl 3 rfl) ?_
      refine q_eq0 (tgt := 78) hx hb (by have := e_v.1; omega) dX8_fits_31 (by decide) (fun g4 => ?_) (fun g4 => ?_)
      · skip
        refine lv_iconst (v := nI 0) hx hb dX8_fits_78 (by decide) ?_
        refine lv_istore_n (lv' := [(3, .int (nI 0)), (0, .ref (bd 0 0)), (1, .int (nI l0)), (2, .int (nI p0)), (4, .int (nI i))]) hx hb dX8_fits_79 rfl hl (by decide) rfl (fun ls hl => ?_)
        refine lv_iinc (v := nI (i + 1)) (lv' := [(4, .int (nI (i + 1))), (3, .int (nI 0)), (0, .ref (bd 0 0)), (1, .int (nI l0)), (2, .int (nI p0))]) hx hb dX8_fits_80 hl (k := 4) rfl (nI_1 i) (by decide) rfl (fun ls hl => ?_)
        refine lv_goto (tgt := 24) hx hb dX8_fits_83 (by decide) ?_
        exact ih _ locs ls ⟨rfl, hS, 0, ⟨Nat.zero_le 1, fun h => absurd h (by decide), fun h => by have q1 := h.2 i (Nat.lt_succ_self _); have q2 := e_v.2.mpr ⟨h.1, fun k hk => h.2 k (by omega)⟩; omega⟩, lv_sub hl [2, 3, 4, 1, 0] rfl⟩
      · skip
        refine lv_aload_n hx hb dX8_fits_34 rfl (lv_at hl 0 rfl) ?_
        refine q_get (C := RX8) (T := TX8) (N := 36) hx hb hts iRX8 hown hC.1 (hW.to rLV0) rfl 12 (by decide) (hts (.fieldLink RX8 35 "LogWeaveModel" "part" "[I") (List.mem_of_getElem? (i := 3) (by decide +kernel))) rfl (v := .ref (bd 9 0)) rfl dX8_fits_35 ?_
        refine lv_iconst (v := nI 3) hx hb dX8_fits_38 (by decide) ?_
        refine lv_iload_n hx hb dX8_fits_39 rfl (lv_at hl 2 rfl) ?_
        refine lv_imul hx hb dX8_fits_40 ?_
        refine q_ti (pk_mul 3 p0) ?_
        refine lv_iload hx hb dX8_fits_41 (lv_at hl 4 rfl) ?_
        refine lv_iadd hx hb dX8_fits_43 ?_
        refine q_ti (nI_add (3 * p0) i) ?_
        refine r_iald hx hb hC.1 (hW.to rLV9) 1 rfl (i := ((3 * p0) + i)) (by omega) (by decide) (v := nI (ρ (112 + i) p0) - 1) (by show nI (ρ (112 + ((3 * p0) + i) % 3) (((3 * p0) + i) / 3)) - 1 = _; rw [show ((3 * p0) + i) % 3 = i by omega, show ((3 * p0) + i) / 3 = p0 by omega]) dX8_fits_44 ?_
        refine lv_iconst (v := -1) hx hb dX8_fits_45 (by decide) ?_
        refine q_eqP hx hb (q_m0 (hB _ _)) dX8_fits_46 (tgt := 74) (by decide) (fun g5 => ?_) (fun g5 => ?_)
        · skip
          refine lv_iconst (v := nI 1) hx hb dX8_fits_74 (by decide) ?_
          refine lv_goto (tgt := 79) hx hb dX8_fits_75 (by decide) ?_
          refine lv_istore_n (lv' := [(3, .int (nI 1)), (0, .ref (bd 0 0)), (1, .int (nI l0)), (2, .int (nI p0)), (4, .int (nI i))]) hx hb dX8_fits_79 rfl hl (by decide) rfl (fun ls hl => ?_)
          refine lv_iinc (v := nI (i + 1)) (lv' := [(4, .int (nI (i + 1))), (3, .int (nI 1)), (0, .ref (bd 0 0)), (1, .int (nI l0)), (2, .int (nI p0))]) hx hb dX8_fits_80 hl (k := 4) rfl (nI_1 i) (by decide) rfl (fun ls hl => ?_)
          refine lv_goto (tgt := 24) hx hb dX8_fits_83 (by decide) ?_
          exact ih _ locs ls ⟨rfl, hS, 1, ⟨Nat.le_refl 1, fun _ => ⟨(e_v.2.mp (by have := e_v.1; omega)).1, fun k hk => (Nat.lt_succ_iff_lt_or_eq.mp hk).elim ((e_v.2.mp (by have := e_v.1; omega)).2 k) (fun z => by rw [z]; omega)⟩, fun _ => rfl⟩, lv_sub hl [2, 3, 4, 1, 0] rfl⟩
        · skip
          refine lv_aload_n hx hb dX8_fits_49 rfl (lv_at hl 0 rfl) ?_
          refine q_get (C := RX8) (T := TX8) (N := 36) hx hb hts iRX8 hown hC.1 (hW.to rLV0) rfl 12 (by decide) (hts (.fieldLink RX8 35 "LogWeaveModel" "part" "[I") (List.mem_of_getElem? (i := 3) (by decide +kernel))) rfl (v := .ref (bd 9 0)) rfl dX8_fits_50 ?_
          refine lv_iconst (v := nI 3) hx hb dX8_fits_53 (by decide) ?_
          refine lv_iload_n hx hb dX8_fits_54 rfl (lv_at hl 2 rfl) ?_
          refine lv_imul hx hb dX8_fits_55 ?_
          refine q_ti (pk_mul 3 p0) ?_
          refine lv_iload hx hb dX8_fits_56 (lv_at hl 4 rfl) ?_
          refine lv_iadd hx hb dX8_fits_58 ?_
          refine q_ti (nI_add (3 * p0) i) ?_
          refine r_iald hx hb hC.1 (hW.to rLV9) 1 rfl (i := ((3 * p0) + i)) (by omega) (by decide) (v := nI (ρ (112 + i) p0) - 1) (by show nI (ρ (112 + ((3 * p0) + i) % 3) (((3 * p0) + i) / 3)) - 1 = _; rw [show ((3 * p0) + i) % 3 = i by omega, show ((3 * p0) + i) / 3 = p0 by omega]) dX8_fits_59 ?_
          refine lv_aload_n hx hb dX8_fits_60 rfl (lv_at hl 0 rfl) ?_
          refine q_get (C := RX8) (T := TX8) (N := 36) hx hb hts iRX8 hown hC.1 (hW.to rLV0) rfl 5 (by decide) (hts (.fieldLink RX8 16 "LogWeaveModel" "word" "[I") (List.mem_of_getElem? (i := 4) (by decide +kernel))) rfl (v := .ref (bd 3 0)) rfl dX8_fits_61 ?_
          refine lv_iconst (v := nI 3) hx hb dX8_fits_64 (by decide) ?_
          refine lv_iload_n hx hb dX8_fits_65 rfl (lv_at hl 1 rfl) ?_
          refine lv_imul hx hb dX8_fits_66 ?_
          refine q_ti (pk_mul 3 l0) ?_
          refine lv_iload hx hb dX8_fits_67 (lv_at hl 4 rfl) ?_
          refine lv_iadd hx hb dX8_fits_69 ?_
          refine q_ti (nI_add (3 * l0) i) ?_
          refine r_iald hx hb hC.1 (hW.to rLV3) 1 rfl (i := ((3 * l0) + i)) (by omega) (by decide) (v := nI (ρ (80 + i) l0)) (by show nI (ρ (80 + ((3 * l0) + i) % 3) (((3 * l0) + i) / 3)) = _; rw [show ((3 * l0) + i) % 3 = i by omega, show ((3 * l0) + i) / 3 = l0 by omega]) dX8_fits_70 ?_
          refine q_neP hx hb (q_m1 (hB _ _) (hB _ _)) dX8_fits_71 (tgt := 78) (by decide) (fun g6 => ?_) (fun g6 => ?_)
          · skip
            refine lv_iconst (v := nI 0) hx hb dX8_fits_78 (by decide) ?_
            refine lv_istore_n (lv' := [(3, .int (nI 0)), (0, .ref (bd 0 0)), (1, .int (nI l0)), (2, .int (nI p0)), (4, .int (nI i))]) hx hb dX8_fits_79 rfl hl (by decide) rfl (fun ls hl => ?_)
            refine lv_iinc (v := nI (i + 1)) (lv' := [(4, .int (nI (i + 1))), (3, .int (nI 0)), (0, .ref (bd 0 0)), (1, .int (nI l0)), (2, .int (nI p0))]) hx hb dX8_fits_80 hl (k := 4) rfl (nI_1 i) (by decide) rfl (fun ls hl => ?_)
            refine lv_goto (tgt := 24) hx hb dX8_fits_83 (by decide) ?_
            exact ih _ locs ls ⟨rfl, hS, 0, ⟨Nat.zero_le 1, fun h => absurd h (by decide), fun h => by have q1 := h.2 i (Nat.lt_succ_self _); have q2 := e_v.2.mpr ⟨h.1, fun k hk => h.2 k (by omega)⟩; omega⟩, lv_sub hl [2, 3, 4, 1, 0] rfl⟩
          · skip
            refine lv_iconst (v := nI 1) hx hb dX8_fits_74 (by decide) ?_
            refine lv_goto (tgt := 79) hx hb dX8_fits_75 (by decide) ?_
            refine lv_istore_n (lv' := [(3, .int (nI 1)), (0, .ref (bd 0 0)), (1, .int (nI l0)), (2, .int (nI p0)), (4, .int (nI i))]) hx hb dX8_fits_79 rfl hl (by decide) rfl (fun ls hl => ?_)
            refine lv_iinc (v := nI (i + 1)) (lv' := [(4, .int (nI (i + 1))), (3, .int (nI 1)), (0, .ref (bd 0 0)), (1, .int (nI l0)), (2, .int (nI p0))]) hx hb dX8_fits_80 hl (k := 4) rfl (nI_1 i) (by decide) rfl (fun ls hl => ?_)
            refine lv_goto (tgt := 24) hx hb dX8_fits_83 (by decide) ?_
            exact ih _ locs ls ⟨rfl, hS, 1, ⟨Nat.le_refl 1, fun _ => ⟨(e_v.2.mp (by have := e_v.1; omega)).1, fun k hk => (Nat.lt_succ_iff_lt_or_eq.mp hk).elim ((e_v.2.mp (by have := e_v.1; omega)).2 k) (fun z => by rw [z]; omega)⟩, fun _ => rfl⟩, lv_sub hl [2, 3, 4, 1, 0] rfl⟩
  · skip
    refine lv_iconst (v := nI 1) hx hb dX8_fits_15 (by decide) ?_
    refine lv_goto (tgt := 20) hx hb dX8_fits_16 (by decide) ?_
    refine lv_istore_n (lv' := [(3, .int (nI 1)), (0, .ref (bd 0 0)), (1, .int (nI l0)), (2, .int (nI p0))]) hx hb dX8_fits_20 rfl hl (by decide) rfl (fun ls hl => ?_)
    refine lv_iconst (v := nI 0) hx hb dX8_fits_21 (by decide) ?_
    refine lv_istore (lv' := [(4, .int (nI 0)), (3, .int (nI 1)), (0, .ref (bd 0 0)), (1, .int (nI l0)), (2, .int (nI p0))]) hx hb dX8_fits_22 hl (by decide) rfl (fun ls hl => ?_)
    refine q_up 3 (fun i H9 locs ls => H9 = s.heap ∧ va_S (fun _ => False) s.heap H9 locs ∧ ∃ (v : Nat), (v ≤ 1 ∧ (v = 1 ↔ rfit ρ l0 p0 i)) ∧ lv_has ls 5 [(0, .ref (bd 0 0)), (1, .int (nI l0)), (2, .int (nI p0)), (3, .int (nI v)), (4, .int (nI i))]) ?_ ?_ (i0 := 0) (Nat.zero_le _) ⟨rfl, hS, 1, ⟨Nat.le_refl 1, fun _ => ⟨by omega, fun k hk => absurd hk (by omega)⟩, fun _ => rfl⟩, lv_sub hl [2, 3, 4, 1, 0] rfl⟩
    · rintro _ locs ls ⟨rfl, hS, v, e_v, hl⟩
      refine lv_iload hx hb dX8_fits_24 (lv_at hl 4 rfl) ?_
      refine lv_iconst (v := nI 3) hx hb dX8_fits_26 (by decide) ?_
      refine q_ge (tgt := 86) hx hb (by decide) (by decide) dX8_fits_27 (by decide) (fun g7 => ?_) (fun g7 => (by omega))
      refine lv_iload_n hx hb dX8_fits_86 rfl (lv_at hl 3 rfl) ?_
      exact W.zret hx hb hr (q_nbool v e_v.1) (fun t ht _ => ⟨by rw [r_qB e_v.1 e_v.2], ht⟩) hS.2.2 dX8_fits_87
    · rintro i _ locs ls hi ⟨rfl, hS, v, e_v, hl⟩ ih
      refine lv_iload hx hb dX8_fits_24 (lv_at hl 4 rfl) ?_
      refine lv_iconst (v := nI 3) hx hb dX8_fits_26 (by decide) ?_
      refine q_ge (tgt := 86) hx hb (by omega) (by decide) dX8_fits_27 (by decide) (fun g8 => (by omega)) (fun g8 => ?_)
      refine lv_iload_n hx hb dX8_fits_30 rfl (lv_at hl 3 rfl) ?_
      refine q_eq0 (tgt := 78) hx hb (by have := e_v.1; omega) dX8_fits_31 (by decide) (fun g9 => ?_) (fun g9 => ?_)
      · skip
        refine lv_iconst (v := nI 0) hx hb dX8_fits_78 (by decide) ?_
        refine lv_istore_n (lv' := [(3, .int (nI 0)), (0, .ref (bd 0 0)), (1, .int (nI l0)), (2, .int (nI p0)), (4, .int (nI i))]) hx hb dX8_fits_79 rfl hl (by decide) rfl (fun ls hl => ?_)
        refine lv_iinc (v := nI (i + 1)) (lv' := [(4, .int (nI (i + 1))), (3, .int (nI 0)), (0, .ref (bd 0 0)), (1, .int (nI l0)), (2, .int (nI p0))]) hx hb dX8_fits_80 hl (k := 4) rfl (nI_1 i) (by decide) rfl (fun ls hl => ?_)
        refine lv_goto (tgt := 24) hx hb dX8_fits_83 (by decide) ?_
        exact ih _ locs ls ⟨rfl, hS, 0, ⟨Nat.zero_le 1, fun h => absurd h (by decide), fun h => by have q1 := h.2 i (Nat.lt_succ_self _); have q2 := e_v.2.mpr ⟨h.1, fun k hk => h.2 k (by omega)⟩; omega⟩, lv_sub hl [2, 3, 4, 1, 0] rfl⟩
      · skip
        refine lv_aload_n hx hb dX8_fits_34 rfl (lv_at hl 0 rfl) ?_
        refine q_get (C := RX8) (T := TX8) (N := 36) hx hb hts iRX8 hown hC.1 (hW.to rLV0) rfl 12 (by decide) (hts (.fieldLink RX8 35 "LogWeaveModel" "part" "[I") (List.mem_of_getElem? (i := 3) (by decide +kernel))) rfl (v := .ref (bd 9 0)) rfl dX8_fits_35 ?_
        refine lv_iconst (v := nI 3) hx hb dX8_fits_38 (by decide) ?_
        refine lv_iload_n hx hb dX8_fits_39 rfl (lv_at hl 2 rfl) ?_
        refine lv_imul hx hb dX8_fits_40 ?_
        refine q_ti (pk_mul 3 p0) ?_
        refine lv_iload hx hb dX8_fits_41 (lv_at hl 4 rfl) ?_
        refine lv_iadd hx hb dX8_fits_43 ?_
        refine q_ti (nI_add (3 * p0) i) ?_
        refine r_iald hx hb hC.1 (hW.to rLV9) 1 rfl (i := ((3 * p0) + i)) (by omega) (by decide) (v := nI (ρ (112 + i) p0) - 1) (by show nI (ρ (112 + ((3 * p0) + i) % 3) (((3 * p0) + i) / 3)) - 1 = _; rw [show ((3 * p0) + i) % 3 = i by omega, show ((3 * p0) + i) / 3 = p0 by omega]) dX8_fits_44 ?_
        refine lv_iconst (v := -1) hx hb dX8_fits_45 (by decide) ?_
        refine q_eqP hx hb (q_m0 (hB _ _)) dX8_fits_46 (tgt := 74) (by decide) (fun g10 => ?_) (fun g10 => ?_)
        · skip
          refine lv_iconst (v := nI 1) hx hb dX8_fits_74 (by decide) ?_
          refine lv_goto (tgt := 79) hx hb dX8_fits_75 (by decide) ?_
          refine lv_istore_n (lv' := [(3, .int (nI 1)), (0, .ref (bd 0 0)), (1, .int (nI l0)), (2, .int (nI p0)), (4, .int (nI i))]) hx hb dX8_fits_79 rfl hl (by decide) rfl (fun ls hl => ?_)
          refine lv_iinc (v := nI (i + 1)) (lv' := [(4, .int (nI (i + 1))), (3, .int (nI 1)), (0, .ref (bd 0 0)), (1, .int (nI l0)), (2, .int (nI p0))]) hx hb dX8_fits_80 hl (k := 4) rfl (nI_1 i) (by decide) rfl (fun ls hl => ?_)
          refine lv_goto (tgt := 24) hx hb dX8_fits_83 (by decide) ?_
          exact ih _ locs ls ⟨rfl, hS, 1, ⟨Nat.le_refl 1, fun _ => ⟨(e_v.2.mp (by have := e_v.1; omega)).1, fun k hk => (Nat.lt_succ_iff_lt_or_eq.mp hk).elim ((e_v.2.mp (by have := e_v.1; omega)).2 k) (fun z => by rw [z]; omega)⟩, fun _ => rfl⟩, lv_sub hl [2, 3, 4, 1, 0] rfl⟩
        · skip
          refine lv_aload_n hx hb dX8_fits_49 rfl (lv_at hl 0 rfl) ?_
          refine q_get (C := RX8) (T := TX8) (N := 36) hx hb hts iRX8 hown hC.1 (hW.to rLV0) rfl 12 (by decide) (hts (.fieldLink RX8 35 "LogWeaveModel" "part" "[I") (List.mem_of_getElem? (i := 3) (by decide +kernel))) rfl (v := .ref (bd 9 0)) rfl dX8_fits_50 ?_
          refine lv_iconst (v := nI 3) hx hb dX8_fits_53 (by decide) ?_
          refine lv_iload_n hx hb dX8_fits_54 rfl (lv_at hl 2 rfl) ?_
          refine lv_imul hx hb dX8_fits_55 ?_
          refine q_ti (pk_mul 3 p0) ?_
          refine lv_iload hx hb dX8_fits_56 (lv_at hl 4 rfl) ?_
          refine lv_iadd hx hb dX8_fits_58 ?_
          refine q_ti (nI_add (3 * p0) i) ?_
          refine r_iald hx hb hC.1 (hW.to rLV9) 1 rfl (i := ((3 * p0) + i)) (by omega) (by decide) (v := nI (ρ (112 + i) p0) - 1) (by show nI (ρ (112 + ((3 * p0) + i) % 3) (((3 * p0) + i) / 3)) - 1 = _; rw [show ((3 * p0) + i) % 3 = i by omega, show ((3 * p0) + i) / 3 = p0 by omega]) dX8_fits_59 ?_
          refine lv_aload_n hx hb dX8_fits_60 rfl (lv_at hl 0 rfl) ?_
          refine q_get (C := RX8) (T := TX8) (N := 36) hx hb hts iRX8 hown hC.1 (hW.to rLV0) rfl 5 (by decide) (hts (.fieldLink RX8 16 "LogWeaveModel" "word" "[I") (List.mem_of_getElem? (i := 4) (by decide +kernel))) rfl (v := .ref (bd 3 0)) rfl dX8_fits_61 ?_
          refine lv_iconst (v := nI 3) hx hb dX8_fits_64 (by decide) ?_
          refine lv_iload_n hx hb dX8_fits_65 rfl (lv_at hl 1 rfl) ?_
          refine lv_imul hx hb dX8_fits_66 ?_
          refine q_ti (pk_mul 3 l0) ?_
          refine lv_iload hx hb dX8_fits_67 (lv_at hl 4 rfl) ?_
          refine lv_iadd hx hb dX8_fits_69 ?_
          refine q_ti (nI_add (3 * l0) i) ?_
          refine r_iald hx hb hC.1 (hW.to rLV3) 1 rfl (i := ((3 * l0) + i)) (by omega) (by decide) (v := nI (ρ (80 + i) l0)) (by show nI (ρ (80 + ((3 * l0) + i) % 3) (((3 * l0) + i) / 3)) = _; rw [show ((3 * l0) + i) % 3 = i by omega, show ((3 * l0) + i) / 3 = l0 by omega]) dX8_fits_70 ?_
          refine q_neP hx hb (q_m1 (hB _ _) (hB _ _)) dX8_fits_71 (tgt := 78) (by decide) (fun g11 => ?_) (fun g11 => ?_)
          · skip
            refine lv_iconst (v := nI 0) hx hb dX8_fits_78 (by decide) ?_
            refine lv_istore_n (lv' := [(3, .int (nI 0)), (0, .ref (bd 0 0)), (1, .int (nI l0)), (2, .int (nI p0)), (4, .int (nI i))]) hx hb dX8_fits_79 rfl hl (by decide) rfl (fun ls hl => ?_)
            refine lv_iinc (v := nI (i + 1)) (lv' := [(4, .int (nI (i + 1))), (3, .int (nI 0)), (0, .ref (bd 0 0)), (1, .int (nI l0)), (2, .int (nI p0))]) hx hb dX8_fits_80 hl (k := 4) rfl (nI_1 i) (by decide) rfl (fun ls hl => ?_)
            refine lv_goto (tgt := 24) hx hb dX8_fits_83 (by decide) ?_
            exact ih _ locs ls ⟨rfl, hS, 0, ⟨Nat.zero_le 1, fun h => absurd h (by decide), fun h => by have q1 := h.2 i (Nat.lt_succ_self _); have q2 := e_v.2.mpr ⟨h.1, fun k hk => h.2 k (by omega)⟩; omega⟩, lv_sub hl [2, 3, 4, 1, 0] rfl⟩
          · skip
            refine lv_iconst (v := nI 1) hx hb dX8_fits_74 (by decide) ?_
            refine lv_goto (tgt := 79) hx hb dX8_fits_75 (by decide) ?_
            refine lv_istore_n (lv' := [(3, .int (nI 1)), (0, .ref (bd 0 0)), (1, .int (nI l0)), (2, .int (nI p0)), (4, .int (nI i))]) hx hb dX8_fits_79 rfl hl (by decide) rfl (fun ls hl => ?_)
            refine lv_iinc (v := nI (i + 1)) (lv' := [(4, .int (nI (i + 1))), (3, .int (nI 1)), (0, .ref (bd 0 0)), (1, .int (nI l0)), (2, .int (nI p0))]) hx hb dX8_fits_80 hl (k := 4) rfl (nI_1 i) (by decide) rfl (fun ls hl => ?_)
            refine lv_goto (tgt := 24) hx hb dX8_fits_83 (by decide) ?_
            exact ih _ locs ls ⟨rfl, hS, 1, ⟨Nat.le_refl 1, fun _ => ⟨(e_v.2.mp (by have := e_v.1; omega)).1, fun k hk => (Nat.lt_succ_iff_lt_or_eq.mp hk).elim ((e_v.2.mp (by have := e_v.1; omega)).2 k) (fun z => by rw [z]; omega)⟩, fun _ => rfl⟩, lv_sub hl [2, 3, 4, 1, 0] rfl⟩
set_option maxHeartbeats 4000000 in
set_option maxRecDepth 100000 in
theorem m_rdifference (l : Launch) (G : QG) (A : Nat → Prop) (ρ bd : QSt) (hF : rWF ρ) (p0 q0 d : Nat) (hp0 : p0 < ρ 0 1) (hq0 : q0 < ρ 0 1) (hd : rDi ρ p0 q0 d) : Met l yX8_difference wsX8_difference ({ frames := 0, cells := 0, slots := 0, locals := 0 } : Room) (rR G A ρ bd [.ref (bd 0 0), .int (nI p0), .int (nI q0)]) (qPV (some (.int (nI d - 1)))) 0 0 (fun _ => False) := by
  refine Met.ofW (cc := cX8_difference) (maxL := 6) (ret := (some .int)) (by decide) rfl ?_
  intro p e s m args below meth c s₁ B hml hv
  obtain ⟨rfl, hC, hW⟩ := hv
  have hx := B.exec
  have hb := B.bytes
  have hr := B.returns
  have hts := atoms_spec (ws := wsX8_difference) B.pre
  have hown : s.vm.findClass RX8 = some m.cls := findClass_of_methodNamed B.named
  have hlocks := B.notSynchronized
  have hB := hF.1
  have hn := hF.n
  have hS : va_S (fun _ => False) s.heap s.heap [] := va_S.rf
  have hl := lv_entry ([.ref (bd 0 0), .int (nI p0), .int (nI q0)]) (n := 6) (Nat.le_of_ble_eq_true rfl)
  rw [lg_entry_eq]
  generalize (lg_sl ([.ref (bd 0 0), .int (nI p0), .int (nI q0)]) ++ List.replicate (6 - (lg_sl ([.ref (bd 0 0), .int (nI p0), .int (nI q0)])).length) Slot.unset).toArray = ls at hl ⊢
  have hl : lv_has ls 6 [(0, .ref (bd 0 0)), (1, .int (nI p0)), (2, .int (nI q0))] := hl
  have iRX8 : ∀ w ∈ wsX80, w ∈ wsX8_difference := by decide +kernel
  refine lv_iconst (v := nI 0) hx hb dX8_difference_0 (by decide) ?_
  refine lv_istore_n (lv' := [(3, .int (nI 0)), (0, .ref (bd 0 0)), (1, .int (nI p0)), (2, .int (nI q0))]) hx hb dX8_difference_1 rfl hl (by decide) rfl (fun ls hl => ?_)
  refine lv_iconst (v := -1) hx hb dX8_difference_2 (by decide) ?_
  refine lv_istore (lv' := [(4, .int (-1)), (3, .int (nI 0)), (0, .ref (bd 0 0)), (1, .int (nI p0)), (2, .int (nI q0))]) hx hb dX8_difference_3 hl (by decide) rfl (fun ls hl => ?_)
  refine lv_iconst (v := nI 0) hx hb dX8_difference_5 (by decide) ?_
  refine lv_istore (lv' := [(5, .int (nI 0)), (4, .int (-1)), (3, .int (nI 0)), (0, .ref (bd 0 0)), (1, .int (nI p0)), (2, .int (nI q0))]) hx hb dX8_difference_6 hl (by decide) rfl (fun ls hl => ?_)
  refine q_up 3 (fun i H9 locs ls => H9 = s.heap ∧ va_S (fun _ => False) s.heap H9 locs ∧ ∃ (v : Nat), (v = qdf (fun k => ρ (112 + k) p0) (fun k => ρ (112 + k) q0) i) ∧ ∃ (u : Nat), (v = 1 → ∃ k, k < i ∧ u = k + 1 ∧ ρ (112 + k) p0 ≠ ρ (112 + k) q0) ∧ lv_has ls 6 [(0, .ref (bd 0 0)), (1, .int (nI p0)), (2, .int (nI q0)), (3, .int (nI v)), (4, .int (nI u - 1)), (5, .int (nI i))]) ?_ ?_ (i0 := 0) (Nat.zero_le _) ⟨rfl, hS, 0, rfl, 0, fun h => absurd h (by decide), lv_sub hl [3, 4, 5, 2, 1, 0] rfl⟩
  · rintro _ locs ls ⟨rfl, hS, v, e_v, u, e_u, hl⟩
    refine lv_iload hx hb dX8_difference_8 (lv_at hl 5 rfl) ?_
    refine lv_iconst (v := nI 3) hx hb dX8_difference_10 (by decide) ?_
    refine q_ge (tgt := 52) hx hb (by decide) (by decide) dX8_difference_11 (by decide) (fun g1 => ?_) (fun g1 => (by omega))
    refine lv_iload_n hx hb dX8_difference_52 rfl (lv_at hl 3 rfl) ?_
    refine lv_iconst (v := nI 1) hx hb dX8_difference_53 (by decide) ?_
    refine q_ne (tgt := 62) hx hb (by have := qdf_le (fun k => ρ (112 + k) p0) (fun k => ρ (112 + k) q0) 3; omega) (by decide) dX8_difference_54 (by decide) (fun g2 => ?_) (fun g2 => ?_)
    · skip
      refine lv_iconst (v := -1) hx hb dX8_difference_62 (by decide) ?_
      rcases hd with ⟨h1, h2⟩ | ⟨h1, h2⟩
      · subst h1
        exact W.iret hx hb hr (fun t ht _ => ⟨rfl, ht⟩) hS.2.2 dX8_difference_63
      · exact absurd (e_v.trans h1) g2
    · skip
      refine lv_iload hx hb dX8_difference_57 (lv_at hl 4 rfl) ?_
      refine lv_goto (tgt := 63) hx hb dX8_difference_59 (by decide) ?_
      obtain ⟨k, k1, k2, k3⟩ := e_u g2
      rcases hd with ⟨h1, h2⟩ | ⟨h1, j, j1, j2, j3⟩
      · exact absurd (e_v.symm.trans g2) h2
      · have hjk : j = k := r_df1 h1 j1 k1 j3 k3
        subst hjk
        subst j2
        subst k2
        exact W.iret hx hb hr (fun t ht _ => ⟨rfl, ht⟩) hS.2.2 dX8_difference_63
  · rintro i _ locs ls hi ⟨rfl, hS, v, e_v, u, e_u, hl⟩ ih
    refine lv_iload hx hb dX8_difference_8 (lv_at hl 5 rfl) ?_
    refine lv_iconst (v := nI 3) hx hb dX8_difference_10 (by decide) ?_
    refine q_ge (tgt := 52) hx hb (by omega) (by decide) dX8_difference_11 (by decide) (fun g3 => (by omega)) (fun g3 => ?_)
    refine lv_aload_n hx hb dX8_difference_14 rfl (lv_at hl 0 rfl) ?_
    refine q_get (C := RX8) (T := TX8) (N := 36) hx hb hts iRX8 hown hC.1 (hW.to rLV0) rfl 12 (by decide) (hts (.fieldLink RX8 35 "LogWeaveModel" "part" "[I") (List.mem_of_getElem? (i := 1) (by decide +kernel))) rfl (v := .ref (bd 9 0)) rfl dX8_difference_15 ?_
    refine lv_iconst (v := nI 3) hx hb dX8_difference_18 (by decide) ?_
    refine lv_iload_n hx hb dX8_difference_19 rfl (lv_at hl 1 rfl) ?_
    refine lv_imul hx hb dX8_difference_20 ?_
    refine q_ti (pk_mul 3 p0) ?_
    refine lv_iload hx hb dX8_difference_21 (lv_at hl 5 rfl) ?_
    refine lv_iadd hx hb dX8_difference_23 ?_
    refine q_ti (nI_add (3 * p0) i) ?_
    refine r_iald hx hb hC.1 (hW.to rLV9) 1 rfl (i := ((3 * p0) + i)) (by omega) (by decide) (v := nI (ρ (112 + i) p0) - 1) (by show nI (ρ (112 + ((3 * p0) + i) % 3) (((3 * p0) + i) / 3)) - 1 = _; rw [show ((3 * p0) + i) % 3 = i by omega, show ((3 * p0) + i) / 3 = p0 by omega]) dX8_difference_24 ?_
    refine lv_aload_n hx hb dX8_difference_25 rfl (lv_at hl 0 rfl) ?_
    refine q_get (C := RX8) (T := TX8) (N := 36) hx hb hts iRX8 hown hC.1 (hW.to rLV0) rfl 12 (by decide) (hts (.fieldLink RX8 35 "LogWeaveModel" "part" "[I") (List.mem_of_getElem? (i := 1) (by decide +kernel))) rfl (v := .ref (bd 9 0)) rfl dX8_difference_26 ?_
    refine lv_iconst (v := nI 3) hx hb dX8_difference_29 (by decide) ?_
    refine lv_iload_n hx hb dX8_difference_30 rfl (lv_at hl 2 rfl) ?_
    refine lv_imul hx hb dX8_difference_31 ?_
    refine q_ti (pk_mul 3 q0) ?_
    refine lv_iload hx hb dX8_difference_32 (lv_at hl 5 rfl) ?_
    refine lv_iadd hx hb dX8_difference_34 ?_
    refine q_ti (nI_add (3 * q0) i) ?_
    refine r_iald hx hb hC.1 (hW.to rLV9) 1 rfl (i := ((3 * q0) + i)) (by omega) (by decide) (v := nI (ρ (112 + i) q0) - 1) (by show nI (ρ (112 + ((3 * q0) + i) % 3) (((3 * q0) + i) / 3)) - 1 = _; rw [show ((3 * q0) + i) % 3 = i by omega, show ((3 * q0) + i) / 3 = q0 by omega]) dX8_difference_35 ?_
    refine q_eqP hx hb (q_mm (hB _ _) (hB _ _)) dX8_difference_36 (tgt := 46) (by decide) (fun g4 => ?_) (fun g4 => ?_)
    · skip
      refine lv_iinc (v := nI (i + 1)) (lv' := [(5, .int (nI (i + 1))), (0, .ref (bd 0 0)), (1, .int (nI p0)), (2, .int (nI q0)), (3, .int (nI v)), (4, .int (nI u - 1))]) hx hb dX8_difference_46 hl (k := 5) rfl (nI_1 i) (by decide) rfl (fun ls hl => ?_)
      refine lv_goto (tgt := 8) hx hb dX8_difference_49 (by decide) ?_
      exact ih _ locs ls ⟨rfl, hS, v, by rw [e_v, qdf, qB_f (fun h => h g4)]; rfl, u, fun h => (e_u h).elim fun k hk => ⟨k, by omega, hk.2⟩, lv_sub hl [1, 2, 3, 4, 5, 0] rfl⟩
    · skip
      refine lv_iinc (v := nI (v + 1)) (lv' := [(3, .int (nI (v + 1))), (0, .ref (bd 0 0)), (1, .int (nI p0)), (2, .int (nI q0)), (4, .int (nI u - 1)), (5, .int (nI i))]) hx hb dX8_difference_39 hl (k := 3) rfl (nI_1 v) (by decide) rfl (fun ls hl => ?_)
      refine lv_iload hx hb dX8_difference_42 (lv_at hl 5 rfl) ?_
      refine lv_istore (lv' := [(4, .int (nI i)), (3, .int (nI (v + 1))), (0, .ref (bd 0 0)), (1, .int (nI p0)), (2, .int (nI q0)), (5, .int (nI i))]) hx hb dX8_difference_44 hl (by decide) rfl (fun ls hl => ?_)
      refine lv_iinc (v := nI (i + 1)) (lv' := [(5, .int (nI (i + 1))), (4, .int (nI i)), (3, .int (nI (v + 1))), (0, .ref (bd 0 0)), (1, .int (nI p0)), (2, .int (nI q0))]) hx hb dX8_difference_46 hl (k := 5) rfl (nI_1 i) (by decide) rfl (fun ls hl => ?_)
      refine lv_goto (tgt := 8) hx hb dX8_difference_49 (by decide) ?_
      rw [← nI_pred i] at hl
      exact ih _ locs ls ⟨rfl, hS, (v + 1), by rw [e_v, qdf, qB_t g4], (i + 1), fun _ => ⟨i, by omega, rfl, g4⟩, lv_sub hl [3, 4, 5, 2, 1, 0] rfl⟩
set_option maxHeartbeats 4000000 in
set_option maxRecDepth 100000 in
theorem m_risOn (l : Launch) (G : QG) (A : Nat → Prop) (ρ bd : QSt) (hF : rWF ρ) (f l0 : Nat) (hf : f < ρ 0 3) (hl0 : l0 < ρ 0 0) : Met l yX8_isOn wsX8_isOn ({ frames := 0, cells := 0, slots := 0, locals := 0 } : Room) (rR G A ρ bd [.ref (bd 0 0), .int (nI f), .int (nI l0)]) (qPV (some (.int (nI (qB (ron ρ f l0)))))) 0 0 (fun _ => False) := by
  refine Met.ofW (cc := cX8_isOn) (maxL := 3) (ret := (some .boolean)) (by decide) rfl ?_
  intro p e s m args below meth c s₁ B hml hv
  obtain ⟨rfl, hC, hW⟩ := hv
  have hx := B.exec
  have hb := B.bytes
  have hr := B.returns
  have hts := atoms_spec (ws := wsX8_isOn) B.pre
  have hown : s.vm.findClass RX8 = some m.cls := findClass_of_methodNamed B.named
  have hlocks := B.notSynchronized
  have hB := hF.1
  have hn := hF.n
  have hS : va_S (fun _ => False) s.heap s.heap [] := va_S.rf
  have hl := lv_entry ([.ref (bd 0 0), .int (nI f), .int (nI l0)]) (n := 3) (Nat.le_of_ble_eq_true rfl)
  rw [lg_entry_eq]
  generalize (lg_sl ([.ref (bd 0 0), .int (nI f), .int (nI l0)]) ++ List.replicate (3 - (lg_sl ([.ref (bd 0 0), .int (nI f), .int (nI l0)])).length) Slot.unset).toArray = ls at hl ⊢
  have hl : lv_has ls 3 [(0, .ref (bd 0 0)), (1, .int (nI f)), (2, .int (nI l0))] := hl
  have iRX8 : ∀ w ∈ wsX80, w ∈ wsX8_isOn := by decide +kernel
  refine lv_aload_n hx hb dX8_isOn_0 rfl (lv_at hl 0 rfl) ?_
  refine q_get (C := RX8) (T := TX8) (N := 36) hx hb hts iRX8 hown hC.1 (hW.to rLV0) rfl 28 (by decide) (hts (.fieldLink RX8 78 "LogWeaveModel" "isReleased" "[Z") (List.mem_of_getElem? (i := 1) (by decide +kernel))) rfl (v := .ref (bd 23 0)) rfl dX8_isOn_1 ?_
  refine lv_iload_n hx hb dX8_isOn_4 rfl (lv_at hl 1 rfl) ?_
  refine r_zald hx hb hC.1 (hW.to rLV23) 4 rfl (i := f) (by omega) (by decide) (v := nI (ρ 162 f)) rfl dX8_isOn_5 ?_
  refine q_ne0 (tgt := 38) hx hb (q31 (hB _ _)) dX8_isOn_6 (by decide) (fun g1 => ?_) (fun g1 => ?_)
  · skip
    refine lv_iconst (v := nI 0) hx hb dX8_isOn_38 (by decide) ?_
    exact W.zret (v := nI 0) hx hb hr rfl (fun t ht _ => ⟨by rw [qB_f (fun h => g1 h.1)], ht⟩) hS.2.2 dX8_isOn_39
  · skip
    refine lv_aload_n hx hb dX8_isOn_9 rfl (lv_at hl 0 rfl) ?_
    refine q_get (C := RX8) (T := TX8) (N := 36) hx hb hts iRX8 hown hC.1 (hW.to rLV0) rfl 29 (by decide) (hts (.fieldLink RX8 81 "LogWeaveModel" "stands" "[J") (List.mem_of_getElem? (i := 2) (by decide +kernel))) rfl (v := .ref (bd 24 0)) rfl dX8_isOn_10 ?_
    refine lv_iconst (v := nI 4) hx hb dX8_isOn_13 (by decide) ?_
    refine lv_iload_n hx hb dX8_isOn_14 rfl (lv_at hl 1 rfl) ?_
    refine lv_imul hx hb dX8_isOn_15 ?_
    refine q_ti (pk_mul 4 f) ?_
    refine lv_iload_n hx hb dX8_isOn_16 rfl (lv_at hl 2 rfl) ?_
    refine lv_bipush (v := nI 50) hx hb dX8_isOn_17 (by decide) ?_
    refine lv_idiv hx hb dX8_isOn_19 (by decide) ?_
    refine q_ti (pk_div (by omega) (by decide) (by decide)) ?_
    refine lv_iadd hx hb dX8_isOn_20 ?_
    refine q_ti (nI_add (4 * f) (l0 / 50)) ?_
    refine r_lald hx hb hC.1 (hW.to rLV24) 2 rfl (i := ((4 * f) + (l0 / 50))) (by omega) (by decide) (v := qbits (ρ (1000 + f)) 50 (l0 / 50)) (by show qbits (ρ (1000 + ((4 * f) + (l0 / 50)) / 4)) 50 (((4 * f) + (l0 / 50)) % 4) = _; rw [show ((4 * f) + (l0 / 50)) / 4 = f by omega, show ((4 * f) + (l0 / 50)) % 4 = l0 / 50 by omega]) dX8_isOn_21 ?_
    refine lv_iload_n hx hb dX8_isOn_22 rfl (lv_at hl 2 rfl) ?_
    refine lv_bipush (v := nI 50) hx hb dX8_isOn_23 (by decide) ?_
    refine lv_irem hx hb dX8_isOn_25 (by decide) ?_
    refine q_ti (pk_rem (by omega) (by decide) (by decide)) ?_
    refine lv_lshr hx hb dX8_isOn_26 rfl ?_
    refine lv_lconst (v := 1) hx hb dX8_isOn_27 (by decide) ?_
    refine lv_land hx hb dX8_isOn_28 ?_
    refine lv_lconst (v := 1) hx hb dX8_isOn_29 (by decide) ?_
    refine W.lcmp hx hb dX8_isOn_30 ?_
    by_cases c3 : ρ (1000 + f) l0 = 1
    · skip
      refine q_ti (y := nI 0) ((q_mark (by decide) (by decide)).trans (if_pos c3)) ?_
      refine q_ne0 (tgt := 38) hx hb (by decide) dX8_isOn_31 (by decide) (fun g8 => (by omega)) (fun g8 => ?_)
      refine lv_iconst (v := nI 1) hx hb dX8_isOn_34 (by decide) ?_
      refine lv_goto (tgt := 39) hx hb dX8_isOn_35 (by decide) ?_
      exact W.zret (v := nI 1) hx hb hr rfl (fun t ht _ => ⟨by rw [qB_t ⟨g1, c3⟩], ht⟩) hS.2.2 dX8_isOn_39
    · skip
      refine q_ti (y := -1) ((q_mark (by decide) (by decide)).trans (if_neg c3)) ?_
      refine lv_if_ne (tgt := 38) hx hb dX8_isOn_31 (by decide) (fun g9 => ?_) (fun g9 => absurd g9 (by decide))
      refine lv_iconst (v := nI 0) hx hb dX8_isOn_38 (by decide) ?_
      exact W.zret (v := nI 0) hx hb hr rfl (fun t ht _ => ⟨by rw [qB_f (fun h => c3 h.2)], ht⟩) hS.2.2 dX8_isOn_39
set_option maxHeartbeats 4000000 in
set_option maxRecDepth 100000 in
theorem m_rguarded (l : Launch) (G : QG) (A : Nat → Prop) (ρ bd : QSt) (hF : rWF ρ) (l0 : Nat) (hl0 : l0 < ρ 0 0) : Met l yX8_isGuardedNow wsX8_isGuardedNow ({ frames := 1, cells := 0, slots := 0, locals := 23 } : Room) (rR G A ρ bd [.ref (bd 0 0), .int (nI l0)]) (qPV (some (.int (nI (rgdN ρ l0))))) 0 0 (fun _ => False) := by
  refine Met.ofW (cc := cX8_isGuardedNow) (maxL := 4) (ret := (some .boolean)) (by decide) rfl ?_
  intro p e s m args below meth c s₁ B hml hv
  obtain ⟨rfl, hC, hW⟩ := hv
  have hx := B.exec
  have hb := B.bytes
  have hr := B.returns
  have hts := atoms_spec (ws := wsX8_isGuardedNow) B.pre
  have hown : s.vm.findClass RX8 = some m.cls := findClass_of_methodNamed B.named
  have hlocks := B.notSynchronized
  have hB := hF.1
  have hn := hF.n
  have hS : va_S (fun _ => False) s.heap s.heap [] := va_S.rf
  have hl := lv_entry ([.ref (bd 0 0), .int (nI l0)]) (n := 4) (Nat.le_of_ble_eq_true rfl)
  rw [lg_entry_eq]
  generalize (lg_sl ([.ref (bd 0 0), .int (nI l0)]) ++ List.replicate (4 - (lg_sl ([.ref (bd 0 0), .int (nI l0)])).length) Slot.unset).toArray = ls at hl ⊢
  have hl : lv_has ls 4 [(0, .ref (bd 0 0)), (1, .int (nI l0))] := hl
  have iRX8 : ∀ w ∈ wsX80, w ∈ wsX8_isGuardedNow := by decide +kernel
  refine lv_iconst (v := nI 0) hx hb dX8_isGuardedNow_0 (by decide) ?_
  refine lv_istore_n (lv' := [(2, .int (nI 0)), (0, .ref (bd 0 0)), (1, .int (nI l0))]) hx hb dX8_isGuardedNow_1 rfl hl (by decide) rfl (fun ls hl => ?_)
  refine lv_iconst (v := nI 0) hx hb dX8_isGuardedNow_2 (by decide) ?_
  refine lv_istore_n (lv' := [(3, .int (nI 0)), (2, .int (nI 0)), (0, .ref (bd 0 0)), (1, .int (nI l0))]) hx hb dX8_isGuardedNow_3 rfl hl (by decide) rfl (fun ls hl => ?_)
  refine q_up (ρ 0 2) (fun i H9 locs ls => H9 = s.heap ∧ va_S (fun _ => False) s.heap H9 locs ∧ ∃ (v : Nat), (v ≤ 1 ∧ (v = 1 ↔ ∃ a, a < i ∧ qcn ρ a l0)) ∧ lv_has ls 4 [(0, .ref (bd 0 0)), (1, .int (nI l0)), (2, .int (nI v)), (3, .int (nI i))]) ?_ ?_ (i0 := 0) (Nat.zero_le _) ⟨rfl, hS, 0, ⟨Nat.zero_le 1, fun h => absurd h (by decide), fun h => h.elim fun a ha => absurd ha.1 (by omega)⟩, lv_sub hl [2, 3, 1, 0] rfl⟩
  · rintro _ locs ls ⟨rfl, hS, v, e_v, hl⟩
    refine lv_iload_n hx hb dX8_isGuardedNow_4 rfl (lv_at hl 3 rfl) ?_
    refine lv_aload_n hx hb dX8_isGuardedNow_5 rfl (lv_at hl 0 rfl) ?_
    refine q_get (C := RX8) (T := TX8) (N := 36) hx hb hts iRX8 hown hC.1 (hW.to rLV0) rfl 14 (by decide) (hts (.fieldLink RX8 114 "LogWeaveModel" "alerts" "I") (List.mem_of_getElem? (i := 1) (by decide +kernel))) rfl (v := .int (nI (ρ 0 2))) rfl dX8_isGuardedNow_6 ?_
    refine q_ge (tgt := 37) hx hb (q31 (hB _ _)) (q31 (hB _ _)) dX8_isGuardedNow_9 (by decide) (fun g1 => ?_) (fun g1 => (by omega))
    refine lv_iconst (v := nI 0) hx hb dX8_isGuardedNow_37 (by decide) ?_
    refine lv_istore_n (lv' := [(3, .int (nI 0)), (0, .ref (bd 0 0)), (1, .int (nI l0)), (2, .int (nI v))]) hx hb dX8_isGuardedNow_38 rfl hl (by decide) rfl (fun ls hl => ?_)
    refine q_up (ρ 0 3) (fun i H9 locs ls => H9 = s.heap ∧ va_S (fun _ => False) s.heap H9 locs ∧ ∃ (v2 : Nat), (v2 ≤ 1 ∧ (v2 = 1 ↔ ((∃ a, a < ρ 0 2 ∧ qcn ρ a l0) ∨ ∃ f, f < i ∧ ron ρ f l0))) ∧ lv_has ls 4 [(0, .ref (bd 0 0)), (1, .int (nI l0)), (2, .int (nI v2)), (3, .int (nI i))]) ?_ ?_ (i0 := 0) (Nat.zero_le _) ⟨rfl, hS, v, ⟨e_v.1, fun h => Or.inl (e_v.2.mp h), fun h => h.elim e_v.2.mpr (fun q => q.elim fun a ha => absurd ha.1 (by omega))⟩, lv_sub hl [1, 2, 3, 0] rfl⟩
    · rintro _ locs ls ⟨rfl, hS, v2, e_v2, hl⟩
      refine lv_iload_n hx hb dX8_isGuardedNow_39 rfl (lv_at hl 3 rfl) ?_
      refine lv_aload_n hx hb dX8_isGuardedNow_40 rfl (lv_at hl 0 rfl) ?_
      refine q_get (C := RX8) (T := TX8) (N := 36) hx hb hts iRX8 hown hC.1 (hW.to rLV0) rfl 25 (by decide) (hts (.fieldLink RX8 117 "LogWeaveModel" "firings" "I") (List.mem_of_getElem? (i := 2) (by decide +kernel))) rfl (v := .int (nI (ρ 0 3))) rfl dX8_isGuardedNow_41 ?_
      refine q_ge (tgt := 72) hx hb (q31 (hB _ _)) (q31 (hB _ _)) dX8_isGuardedNow_44 (by decide) (fun g2 => ?_) (fun g2 => (by omega))
      refine lv_iload_n hx hb dX8_isGuardedNow_72 rfl (lv_at hl 2 rfl) ?_
      refine q_eq0 (tgt := 91) hx hb (by have := e_v2.1; omega) dX8_isGuardedNow_73 (by decide) (fun g3 => ?_) (fun g3 => ?_)
      · skip
        refine lv_iconst (v := nI 0) hx hb dX8_isGuardedNow_91 (by decide) ?_
        exact W.zret (v := nI 0) hx hb hr rfl (fun t ht _ => ⟨by rw [rgdN_f (fun h => by have h7 := h.2; have h8 := e_v2.2.mpr h.1; omega)], ht⟩) hS.2.2 dX8_isGuardedNow_92
      · skip
        refine lv_aload_n hx hb dX8_isGuardedNow_76 rfl (lv_at hl 0 rfl) ?_
        refine q_get (C := RX8) (T := TX8) (N := 36) hx hb hts iRX8 hown hC.1 (hW.to rLV0) rfl 8 (by decide) (hts (.fieldLink RX8 25 "LogWeaveModel" "state" "[C") (List.mem_of_getElem? (i := 3) (by decide +kernel))) rfl (v := .ref (bd 6 0)) rfl dX8_isGuardedNow_77 ?_
        refine lv_iload_n hx hb dX8_isGuardedNow_80 rfl (lv_at hl 1 rfl) ?_
        refine r_cald hx hb hC.1 (hW.to rLV6) 3 rfl (i := l0) (by omega) (by decide) (v := nI (ρ 69 l0)) rfl dX8_isGuardedNow_81 ?_
        refine lv_bipush (v := nI 100) hx hb dX8_isGuardedNow_82 (by decide) ?_
        refine q_eq (tgt := 91) hx hb (q31 (hB _ _)) (by decide) dX8_isGuardedNow_84 (by decide) (fun g4 => ?_) (fun g4 => ?_)
        · skip
          refine lv_iconst (v := nI 0) hx hb dX8_isGuardedNow_91 (by decide) ?_
          exact W.zret (v := nI 0) hx hb hr rfl (fun t ht _ => ⟨by rw [rgdN_f (fun h => by have h7 := h.2; have h8 := e_v2.2.mpr h.1; omega)], ht⟩) hS.2.2 dX8_isGuardedNow_92
        · skip
          refine lv_iconst (v := nI 1) hx hb dX8_isGuardedNow_87 (by decide) ?_
          refine lv_goto (tgt := 92) hx hb dX8_isGuardedNow_88 (by decide) ?_
          exact W.zret (v := nI 1) hx hb hr rfl (fun t ht _ => ⟨by rw [rgdN_t ⟨e_v2.2.mp (by have := e_v2.1; omega), g4⟩], ht⟩) hS.2.2 dX8_isGuardedNow_92
    · rintro i _ locs ls hi ⟨rfl, hS, v2, e_v2, hl⟩ ih2
      refine lv_iload_n hx hb dX8_isGuardedNow_39 rfl (lv_at hl 3 rfl) ?_
      refine lv_aload_n hx hb dX8_isGuardedNow_40 rfl (lv_at hl 0 rfl) ?_
      refine q_get (C := RX8) (T := TX8) (N := 36) hx hb hts iRX8 hown hC.1 (hW.to rLV0) rfl 25 (by decide) (hts (.fieldLink RX8 117 "LogWeaveModel" "firings" "I") (List.mem_of_getElem? (i := 2) (by decide +kernel))) rfl (v := .int (nI (ρ 0 3))) rfl dX8_isGuardedNow_41 ?_
      refine q_ge (tgt := 72) hx hb (by omega) (q31 (hB _ _)) dX8_isGuardedNow_44 (by decide) (fun g5 => (by omega)) (fun g5 => ?_)
      refine lv_iload_n hx hb dX8_isGuardedNow_47 rfl (lv_at hl 2 rfl) ?_
      refine q_ne0 (tgt := 60) hx hb (by have := e_v2.1; omega) dX8_isGuardedNow_48 (by decide) (fun g6 => ?_) (fun g6 => ?_)
      · skip
        refine lv_iconst (v := nI 1) hx hb dX8_isGuardedNow_60 (by decide) ?_
        refine lv_goto (tgt := 65) hx hb dX8_isGuardedNow_61 (by decide) ?_
        refine lv_istore_n (lv' := [(2, .int (nI 1)), (0, .ref (bd 0 0)), (1, .int (nI l0)), (3, .int (nI i))]) hx hb dX8_isGuardedNow_65 rfl hl (by decide) rfl (fun ls hl => ?_)
        refine lv_iinc (v := nI (i + 1)) (lv' := [(3, .int (nI (i + 1))), (2, .int (nI 1)), (0, .ref (bd 0 0)), (1, .int (nI l0))]) hx hb dX8_isGuardedNow_66 hl (k := 3) rfl (nI_1 i) (by decide) rfl (fun ls hl => ?_)
        refine lv_goto (tgt := 39) hx hb dX8_isGuardedNow_69 (by decide) ?_
        exact ih2 _ locs ls ⟨rfl, hS, 1, ⟨Nat.le_refl 1, fun _ => ((e_v2.2.mp (by have := e_v2.1; omega)).elim Or.inl (fun q => Or.inr (q.elim fun a ha => ⟨a, by omega, ha.2⟩))), fun _ => rfl⟩, lv_sub hl [2, 3, 1, 0] rfl⟩
      · skip
        refine lv_aload_n hx hb dX8_isGuardedNow_51 rfl (lv_at hl 0 rfl) ?_
        refine lv_iload_n hx hb dX8_isGuardedNow_52 rfl (lv_at hl 3 rfl) ?_
        refine lv_iload_n hx hb dX8_isGuardedNow_53 rfl (lv_at hl 1 rfl) ?_
        refine q_v (va_runV (As := [.int (nI i), .int (nI l0)]) (rest := []) ⟨hx, hb, hml, hown, hts⟩ (m_risOn l G A ρ bd hF i l0 hi hl0) (cwV 2 hts gX8_isGuardedNow_X8_isOn rfl rfl rfl (by decide +kernel) ⟨Nat.le_of_ble_eq_true rfl, Nat.le_of_ble_eq_true rfl⟩) ⟨rR.blind, qrecv hC (hW.to rLV0) rfl, rR.pre hC hW⟩ rfl rfl hl.1 rfl (lv_room (Nat.le_of_ble_eq_true rfl)) dX8_isGuardedNow_54 ⟨Nat.le_of_ble_eq_true rfl, Nat.le_of_ble_eq_true rfl⟩) hS (fun _ h => h.elim) (fun locs hS => ?_)
        refine q_eq0 (tgt := 64) hx hb q_31B dX8_isGuardedNow_57 (by decide) (fun g7 => ?_) (fun g7 => ?_)
        · skip
          refine lv_iconst (v := nI 0) hx hb dX8_isGuardedNow_64 (by decide) ?_
          refine lv_istore_n (lv' := [(2, .int (nI 0)), (0, .ref (bd 0 0)), (1, .int (nI l0)), (3, .int (nI i))]) hx hb dX8_isGuardedNow_65 rfl hl (by decide) rfl (fun ls hl => ?_)
          refine lv_iinc (v := nI (i + 1)) (lv' := [(3, .int (nI (i + 1))), (2, .int (nI 0)), (0, .ref (bd 0 0)), (1, .int (nI l0))]) hx hb dX8_isGuardedNow_66 hl (k := 3) rfl (nI_1 i) (by decide) rfl (fun ls hl => ?_)
          refine lv_goto (tgt := 39) hx hb dX8_isGuardedNow_69 (by decide) ?_
          exact ih2 _ locs ls ⟨rfl, hS, 0, ⟨Nat.zero_le 1, fun h => absurd h (by decide), fun h => by rcases h with h | ⟨a, a1, a2⟩; exact absurd (e_v2.2.mpr (Or.inl h)) (by omega); rcases Nat.lt_succ_iff_lt_or_eq.mp a1 with z | z; exact absurd (e_v2.2.mpr (Or.inr ⟨a, z, a2⟩)) (by omega); subst z; rw [qB_t a2] at g7; exact absurd g7 (by decide)⟩, lv_sub hl [2, 3, 1, 0] rfl⟩
        · skip
          refine lv_iconst (v := nI 1) hx hb dX8_isGuardedNow_60 (by decide) ?_
          refine lv_goto (tgt := 65) hx hb dX8_isGuardedNow_61 (by decide) ?_
          refine lv_istore_n (lv' := [(2, .int (nI 1)), (0, .ref (bd 0 0)), (1, .int (nI l0)), (3, .int (nI i))]) hx hb dX8_isGuardedNow_65 rfl hl (by decide) rfl (fun ls hl => ?_)
          refine lv_iinc (v := nI (i + 1)) (lv' := [(3, .int (nI (i + 1))), (2, .int (nI 1)), (0, .ref (bd 0 0)), (1, .int (nI l0))]) hx hb dX8_isGuardedNow_66 hl (k := 3) rfl (nI_1 i) (by decide) rfl (fun ls hl => ?_)
          refine lv_goto (tgt := 39) hx hb dX8_isGuardedNow_69 (by decide) ?_
          exact ih2 _ locs ls ⟨rfl, hS, 1, ⟨Nat.le_refl 1, fun _ => (Or.inr ⟨i, Nat.lt_succ_self _, Classical.byContradiction fun h => g7 (qB_f h)⟩), fun _ => rfl⟩, lv_sub hl [2, 3, 1, 0] rfl⟩
  · rintro i _ locs ls hi ⟨rfl, hS, v, e_v, hl⟩ ih
    refine lv_iload_n hx hb dX8_isGuardedNow_4 rfl (lv_at hl 3 rfl) ?_
    refine lv_aload_n hx hb dX8_isGuardedNow_5 rfl (lv_at hl 0 rfl) ?_
    refine q_get (C := RX8) (T := TX8) (N := 36) hx hb hts iRX8 hown hC.1 (hW.to rLV0) rfl 14 (by decide) (hts (.fieldLink RX8 114 "LogWeaveModel" "alerts" "I") (List.mem_of_getElem? (i := 1) (by decide +kernel))) rfl (v := .int (nI (ρ 0 2))) rfl dX8_isGuardedNow_6 ?_
    refine q_ge (tgt := 37) hx hb (by omega) (q31 (hB _ _)) dX8_isGuardedNow_9 (by decide) (fun g8 => (by omega)) (fun g8 => ?_)
    refine lv_iload_n hx hb dX8_isGuardedNow_12 rfl (lv_at hl 2 rfl) ?_
    refine q_ne0 (tgt := 25) hx hb (by have := e_v.1; omega) dX8_isGuardedNow_13 (by decide) (fun g9 => ?_) (fun g9 => ?_)
    · skip
      refine lv_iconst (v := nI 1) hx hb dX8_isGuardedNow_25 (by decide) ?_
      refine lv_goto (tgt := 30) hx hb dX8_isGuardedNow_26 (by decide) ?_
      refine lv_istore_n (lv' := [(2, .int (nI 1)), (0, .ref (bd 0 0)), (1, .int (nI l0)), (3, .int (nI i))]) hx hb dX8_isGuardedNow_30 rfl hl (by decide) rfl (fun ls hl => ?_)
      refine lv_iinc (v := nI (i + 1)) (lv' := [(3, .int (nI (i + 1))), (2, .int (nI 1)), (0, .ref (bd 0 0)), (1, .int (nI l0))]) hx hb dX8_isGuardedNow_31 hl (k := 3) rfl (nI_1 i) (by decide) rfl (fun ls hl => ?_)
      refine lv_goto (tgt := 4) hx hb dX8_isGuardedNow_34 (by decide) ?_
      exact ih _ locs ls ⟨rfl, hS, 1, ⟨Nat.le_refl 1, fun _ => ((e_v.2.mp (by have := e_v.1; omega)).elim fun a ha => ⟨a, by omega, ha.2⟩), fun _ => rfl⟩, lv_sub hl [2, 3, 1, 0] rfl⟩
    · skip
      refine lv_aload_n hx hb dX8_isGuardedNow_16 rfl (lv_at hl 0 rfl) ?_
      refine lv_iload_n hx hb dX8_isGuardedNow_17 rfl (lv_at hl 3 rfl) ?_
      refine lv_iload_n hx hb dX8_isGuardedNow_18 rfl (lv_at hl 1 rfl) ?_
      refine q_v (va_runV (As := [.int (nI i), .int (nI l0)]) (rest := []) ⟨hx, hb, hml, hown, hts⟩ (m_rcounts l G A ρ bd hF i l0 hi hl0) (cwV 2 hts gX8_isGuardedNow_X8_counts rfl rfl rfl (by decide +kernel) ⟨Nat.le_of_ble_eq_true rfl, Nat.le_of_ble_eq_true rfl⟩) ⟨rR.blind, qrecv hC (hW.to rLV0) rfl, rR.pre hC hW⟩ rfl rfl hl.1 rfl (lv_room (Nat.le_of_ble_eq_true rfl)) dX8_isGuardedNow_19 ⟨Nat.le_of_ble_eq_true rfl, Nat.le_of_ble_eq_true rfl⟩) hS (fun _ h => h.elim) (fun locs hS => ?_)
      refine q_eq0 (tgt := 29) hx hb q_31B dX8_isGuardedNow_22 (by decide) (fun g10 => ?_) (fun g10 => ?_)
      · skip
        refine lv_iconst (v := nI 0) hx hb dX8_isGuardedNow_29 (by decide) ?_
        refine lv_istore_n (lv' := [(2, .int (nI 0)), (0, .ref (bd 0 0)), (1, .int (nI l0)), (3, .int (nI i))]) hx hb dX8_isGuardedNow_30 rfl hl (by decide) rfl (fun ls hl => ?_)
        refine lv_iinc (v := nI (i + 1)) (lv' := [(3, .int (nI (i + 1))), (2, .int (nI 0)), (0, .ref (bd 0 0)), (1, .int (nI l0))]) hx hb dX8_isGuardedNow_31 hl (k := 3) rfl (nI_1 i) (by decide) rfl (fun ls hl => ?_)
        refine lv_goto (tgt := 4) hx hb dX8_isGuardedNow_34 (by decide) ?_
        exact ih _ locs ls ⟨rfl, hS, 0, ⟨Nat.zero_le 1, fun h => absurd h (by decide), fun h => by obtain ⟨a, a1, a2⟩ := h; rcases Nat.lt_succ_iff_lt_or_eq.mp a1 with z | z; exact absurd (e_v.2.mpr ⟨a, z, a2⟩) (by omega); subst z; rw [qB_t a2] at g10; exact absurd g10 (by decide)⟩, lv_sub hl [2, 3, 1, 0] rfl⟩
      · skip
        refine lv_iconst (v := nI 1) hx hb dX8_isGuardedNow_25 (by decide) ?_
        refine lv_goto (tgt := 30) hx hb dX8_isGuardedNow_26 (by decide) ?_
        refine lv_istore_n (lv' := [(2, .int (nI 1)), (0, .ref (bd 0 0)), (1, .int (nI l0)), (3, .int (nI i))]) hx hb dX8_isGuardedNow_30 rfl hl (by decide) rfl (fun ls hl => ?_)
        refine lv_iinc (v := nI (i + 1)) (lv' := [(3, .int (nI (i + 1))), (2, .int (nI 1)), (0, .ref (bd 0 0)), (1, .int (nI l0))]) hx hb dX8_isGuardedNow_31 hl (k := 3) rfl (nI_1 i) (by decide) rfl (fun ls hl => ?_)
        refine lv_goto (tgt := 4) hx hb dX8_isGuardedNow_34 (by decide) ?_
        exact ih _ locs ls ⟨rfl, hS, 1, ⟨Nat.le_refl 1, fun _ => ⟨i, Nat.lt_succ_self _, Classical.byContradiction fun h => g10 (qB_f h)⟩, fun _ => rfl⟩, lv_sub hl [2, 3, 1, 0] rfl⟩
