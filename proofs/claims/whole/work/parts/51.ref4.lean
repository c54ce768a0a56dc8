theorem r_kd112 {k : Nat} (h : k < 3) : rKd (112 + k) = 9 := by
  rcases (show k = 0 ∨ k = 1 ∨ k = 2 by omega) with rfl | rfl | rfl <;> rfl
theorem qup_id (σ : QSt) (r j : Nat) : qup σ r j (σ r j) = σ := by
  funext a b
  unfold qup
  split
  · rename_i c; rw [c.1, c.2]
  · rfl
theorem rWF.up {ρ : QSt} (h : rWF ρ) (r i v : Nat) (hv : v < 1073741824) (hr : r ≠ 0 ∧ r ≠ 1 ∧ r ≠ 66 ∧ r ≠ 67 ∧ r ≠ 131 ∧ r ≠ 133 ∧ r ≠ 135 ∧ r ≠ 146 ∧ r ≠ 160) : rWF (qup ρ r i v) := by
  obtain ⟨h1, h2, h3, h4, h5⟩ := h
  have e : ∀ q j, q ≠ r → qup ρ r i v q j = ρ q j := fun q j hq => qup_k hq
  refine ⟨fun q j => ?_, by rw [e 0 _ (by omega), e 0 _ (by omega), e 0 _ (by omega), e 0 _ (by omega), e 0 _ (by omega)]; exact h2, fun j hj => ?_, fun a ha => ?_, fun f hf => ?_⟩
  · unfold qup; split
    · exact hv
    · exact h1 q j
  · rw [e 0 _ (by omega)] at hj
    rw [e 67 _ (by omega), e 1 _ (by omega), e 66 _ (by omega)]
    exact h3 j hj
  · rw [e 0 _ (by omega)] at ha
    rw [e 146 _ (by omega), e 131 _ (by omega), e 135 _ (by omega), e 133 _ (by omega), e 0 _ (by omega)]
    exact h4 a ha
  · rw [e 0 _ (by omega)] at hf
    rw [e 160 _ (by omega), e 0 _ (by omega)]
    exact h5 f hf
/-- two states that differ in rows without bounds of their own -/
theorem rWF.sub {ρ ρ2 : QSt} (h : rWF ρ) (hb : ∀ r i, ρ2 r i < 1073741824) (hk : ∀ r i, (r = 0 ∨ r = 1 ∨ r = 66 ∨ r = 67 ∨ r = 131 ∨ r = 133 ∨ r = 135 ∨ r = 146 ∨ r = 160) → ρ2 r i = ρ r i) : rWF ρ2 := by
  obtain ⟨h1, h2, h3, h4, h5⟩ := h
  refine ⟨hb, by rw [hk 0 _ (by omega), hk 0 _ (by omega), hk 0 _ (by omega), hk 0 _ (by omega), hk 0 _ (by omega)]; exact h2, fun j hj => ?_, fun a ha => ?_, fun f hf => ?_⟩
  · rw [hk 0 _ (by omega)] at hj
    rw [hk 67 _ (by omega), hk 1 _ (by omega), hk 66 _ (by omega)]
    exact h3 j hj
  · rw [hk 0 _ (by omega)] at ha
    rw [hk 146 _ (by omega), hk 131 _ (by omega), hk 135 _ (by omega), hk 133 _ (by omega), hk 0 _ (by omega)]
    exact h4 a ha
  · rw [hk 0 _ (by omega)] at hf
    rw [hk 160 _ (by omega), hk 0 _ (by omega)]
    exact h5 f hf
theorem qfMw_b {ρ : QSt} (h : ∀ r i, ρ r i < 1073741824) (a b k : Nat) (r i : Nat) : qfMw ρ a b k r i < 1073741824 := by
  unfold qfMw; split
  · decide
  · exact h r i
theorem qfMl_b {ρ : QSt} (h : ∀ r i, ρ r i < 1073741824) {a : Nat} (ha : a < 1073741824) (b k : Nat) (r i : Nat) : qfMl ρ a b k r i < 1073741824 := by
  unfold qfMl; split
  · exact ha
  · exact h r i
theorem qup_b {ρ : QSt} (h : ∀ r i, ρ r i < 1073741824) {v : Nat} (hv : v < 1073741824) (r0 i0 : Nat) (r i : Nat) : qup ρ r0 i0 v r i < 1073741824 := by
  unfold qup; split
  · exact hv
  · exact h r i
theorem qfM_rwf {ρ : QSt} (h : rWF ρ) {a b : Nat} (ha : a < 1073741824) : rWF (qfM ρ a b) := by
  refine h.sub (qfMl_b (qup_b (qfMw_b h.1 a b 3) (by decide) _ _) ha _ _) (fun r i hr => qfM_r (by omega) (by omega) (by omega))
theorem qfMw_1 {ρ : QSt} {p0 q0 k : Nat} (hk : k < 3) (h1 : qdf (fun k => ρ (112 + k) p0) (fun k => ρ (112 + k) q0) 3 = 1) (h2 : ρ (112 + k) p0 ≠ ρ (112 + k) q0) : qfMw ρ p0 q0 3 = qup ρ (112 + k) p0 0 := by
  funext r j
  unfold qfMw qup
  by_cases c : r = 112 + k ∧ j = p0
  · rw [if_pos c, if_pos ⟨by omega, by omega, c.2, by rw [c.1]; exact h2⟩]
  · rw [if_neg c, if_neg (fun z => c ⟨?_, z.2.2.1⟩)]
    obtain ⟨z1, z2, z3, z4⟩ := z
    have e : r = 112 + (r - 112) := by omega
    have := r_df1 (j := r - 112) (k := k) h1 (by omega) hk (by rw [← e]; exact z4) h2
    omega
/-- two patterns of a source that may be merged -/
abbrev rMy (ρ : QSt) (s0 p0 q0 : Nat) : Prop := ρ 96 p0 = s0 ∧ ρ 96 q0 = s0 ∧ ρ 97 p0 = 0 ∧ ρ 97 q0 = 0 ∧ qdf (fun k => ρ (112 + k) p0) (fun k => ρ (112 + k) q0) 3 = 1
/-- the first two of them -/
def rM1 (ρ : QSt) (s0 p0 q0 : Nat) : Prop := p0 < q0 ∧ q0 < ρ 0 1 ∧ rMy ρ s0 p0 q0 ∧ ∀ p q, p < q → q < ρ 0 1 → (p < p0 ∨ p = p0 ∧ q < q0) → ¬ rMy ρ s0 p q
def rM0 (ρ : QSt) (s0 : Nat) : Prop := ∀ p q, p < q → q < ρ 0 1 → ¬ rMy ρ s0 p q

set_option maxHeartbeats 4000000 in
set_option maxRecDepth 100000 in
theorem m_rmerges0 (l : Launch) (G : QG) (A : Nat → Prop) (ρ bd : QSt) (hF : rWF ρ) (s0 : Nat) (hs0 : s0 < 1073741824) (hm : rM0 ρ s0) : Met l yX8_merges wsX8_merges ({ frames := 1, cells := 0, slots := 0, locals := 25 } : Room) (rR G A ρ bd [.ref (bd 0 0), .int (nI s0)]) (qPV (some (.int (nI 0)))) 0 0 (fun _ => False) := by
  refine Met.ofW (cc := cX8_merges) (maxL := 7) (ret := (some .boolean)) (by decide) rfl ?_
  intro p e s m args below meth c s₁ B hml hv
  obtain ⟨rfl, hC, hW⟩ := hv
  have hx := B.exec
  have hb := B.bytes
  have hr := B.returns
  have hts := atoms_spec (ws := wsX8_merges) B.pre
  have hown : s.vm.findClass RX8 = some m.cls := findClass_of_methodNamed B.named
  have hlocks := B.notSynchronized
  have hB := hF.1
  have hn := hF.n
  have hS : va_S (fun _ => False) s.heap s.heap [] := va_S.rf
  have hl := lv_entry ([.ref (bd 0 0), .int (nI s0)]) (n := 7) (Nat.le_of_ble_eq_true rfl)
  rw [lg_entry_eq]
  generalize (lg_sl ([.ref (bd 0 0), .int (nI s0)]) ++ List.replicate (7 - (lg_sl ([.ref (bd 0 0), .int (nI s0)])).length) Slot.unset).toArray = ls at hl ⊢
  have hl : lv_has ls 7 [(0, .ref (bd 0 0)), (1, .int (nI s0))] := hl
  have iRX8 : ∀ w ∈ wsX80, w ∈ wsX8_merges := by decide +kernel
  refine lv_iconst (v := nI 0) hx hb dX8_merges_0 (by decide) ?_
  refine lv_istore_n (lv' := [(2, .int (nI 0)), (0, .ref (bd 0 0)), (1, .int (nI s0))]) hx hb dX8_merges_1 rfl hl (by decide) rfl (fun ls hl => ?_)
  refine q_up (ρ 0 1) (fun p H9 locs ls => H9 = s.heap ∧ va_S (fun _ => False) s.heap H9 locs ∧ lv_has ls 7 [(0, .ref (bd 0 0)), (1, .int (nI s0)), (2, .int (nI p))]) ?_ ?_ (i0 := 0) (Nat.zero_le _) ⟨rfl, hS, lv_sub hl [1, 2, 0] rfl⟩
  · rintro _ locs ls ⟨rfl, hS, hl⟩
    refine lv_iload_n hx hb dX8_merges_2 rfl (lv_at hl 2 rfl) ?_
    refine lv_aload_n hx hb dX8_merges_3 rfl (lv_at hl 0 rfl) ?_
    refine q_get (C := RX8) (T := TX8) (N := 36) hx hb hts iRX8 hown hC.1 (hW.to rLV0) rfl 10 (by decide) (hts (.fieldLink RX8 111 "LogWeaveModel" "patterns" "I") (List.mem_of_getElem? (i := 1) (by decide +kernel))) rfl (v := .int (nI (ρ 0 1))) rfl dX8_merges_4 ?_
    refine q_ge (tgt := 170) hx hb (q31 (hB _ _)) (q31 (hB _ _)) dX8_merges_7 (by decide) (fun g1 => ?_) (fun g1 => (by omega))
    refine lv_iconst (v := nI 0) hx hb dX8_merges_170 (by decide) ?_
    exact W.zret (v := nI 0) hx hb hr rfl (fun t ht _ => ⟨rfl, ht⟩) hS.2.2 dX8_merges_171
  · rintro p _ locs ls hi ⟨rfl, hS, hl⟩ ihp
    refine lv_iload_n hx hb dX8_merges_2 rfl (lv_at hl 2 rfl) ?_
    refine lv_aload_n hx hb dX8_merges_3 rfl (lv_at hl 0 rfl) ?_
    refine q_get (C := RX8) (T := TX8) (N := 36) hx hb hts iRX8 hown hC.1 (hW.to rLV0) rfl 10 (by decide) (hts (.fieldLink RX8 111 "LogWeaveModel" "patterns" "I") (List.mem_of_getElem? (i := 1) (by decide +kernel))) rfl (v := .int (nI (ρ 0 1))) rfl dX8_merges_4 ?_
    refine q_ge (tgt := 170) hx hb (by omega) (q31 (hB _ _)) dX8_merges_7 (by decide) (fun g2 => (by omega)) (fun g2 => ?_)
    refine lv_iload_n hx hb dX8_merges_10 rfl (lv_at hl 2 rfl) ?_
    refine lv_iconst (v := nI 1) hx hb dX8_merges_11 (by decide) ?_
    refine lv_iadd hx hb dX8_merges_12 ?_
    refine q_ti (nI_add p 1) ?_
    refine lv_istore_n (lv' := [(3, .int (nI (p + 1))), (0, .ref (bd 0 0)), (1, .int (nI s0)), (2, .int (nI p))]) hx hb dX8_merges_13 rfl hl (by decide) rfl (fun ls hl => ?_)
    refine q_up (ρ 0 1) (fun q H9 locs ls => H9 = s.heap ∧ va_S (fun _ => False) s.heap H9 locs ∧ ∃ (jj : Unit), (Unit → p < q) ∧ ∃ (j : Unit), (Unit → (∀ x, p < x → x < q → ¬ rMy ρ s0 p x)) ∧ lv_has ls 7 [(0, .ref (bd 0 0)), (1, .int (nI s0)), (2, .int (nI p)), (3, .int (nI q))]) ?_ ?_ (i0 := (p + 1)) (by omega) ⟨rfl, hS, (), fun _ => Nat.lt_succ_self _, (), fun _ x x1 x2 => absurd x1 (by omega), lv_sub hl [1, 2, 3, 0] rfl⟩
    · rintro _ locs ls ⟨rfl, hS, jj, e_jj, j, e_j, hl⟩
      refine lv_iload_n hx hb dX8_merges_14 rfl (lv_at hl 3 rfl) ?_
      refine lv_aload_n hx hb dX8_merges_15 rfl (lv_at hl 0 rfl) ?_
      refine q_get (C := RX8) (T := TX8) (N := 36) hx hb hts iRX8 hown hC.1 (hW.to rLV0) rfl 10 (by decide) (hts (.fieldLink RX8 111 "LogWeaveModel" "patterns" "I") (List.mem_of_getElem? (i := 1) (by decide +kernel))) rfl (v := .int (nI (ρ 0 1))) rfl dX8_merges_16 ?_
      refine q_ge (tgt := 164) hx hb (q31 (hB _ _)) (q31 (hB _ _)) dX8_merges_19 (by decide) (fun g3 => ?_) (fun g3 => (by omega))
      refine lv_iinc (v := nI (p + 1)) (lv' := [(2, .int (nI (p + 1))), (0, .ref (bd 0 0)), (1, .int (nI s0)), (3, .int (nI (ρ 0 1)))]) hx hb dX8_merges_164 hl (k := 2) rfl (nI_1 p) (by decide) rfl (fun ls hl => ?_)
      refine lv_goto (tgt := 2) hx hb dX8_merges_167 (by decide) ?_
      exact ihp _ locs ls ⟨rfl, hS, lv_sub hl [1, 2, 0] rfl⟩
    · rintro q _ locs ls hi ⟨rfl, hS, jj, e_jj, j, e_j, hl⟩ ihq
      refine lv_iload_n hx hb dX8_merges_14 rfl (lv_at hl 3 rfl) ?_
      refine lv_aload_n hx hb dX8_merges_15 rfl (lv_at hl 0 rfl) ?_
      refine q_get (C := RX8) (T := TX8) (N := 36) hx hb hts iRX8 hown hC.1 (hW.to rLV0) rfl 10 (by decide) (hts (.fieldLink RX8 111 "LogWeaveModel" "patterns" "I") (List.mem_of_getElem? (i := 1) (by decide +kernel))) rfl (v := .int (nI (ρ 0 1))) rfl dX8_merges_16 ?_
      refine q_ge (tgt := 164) hx hb (by omega) (q31 (hB _ _)) dX8_merges_19 (by decide) (fun g4 => (by omega)) (fun g4 => ?_)
      refine lv_aload_n hx hb dX8_merges_22 rfl (lv_at hl 0 rfl) ?_
      refine q_get (C := RX8) (T := TX8) (N := 36) hx hb hts iRX8 hown hC.1 (hW.to rLV0) rfl 11 (by decide) (hts (.fieldLink RX8 32 "LogWeaveModel" "sourceOf" "[I") (List.mem_of_getElem? (i := 2) (by decide +kernel))) rfl (v := .ref (bd 8 0)) rfl dX8_merges_23 ?_
      refine lv_iload_n hx hb dX8_merges_26 rfl (lv_at hl 2 rfl) ?_
      refine r_iald hx hb hC.1 (hW.to rLV8) 1 rfl (i := p) (by omega) (by decide) (v := nI (ρ 96 p)) rfl dX8_merges_27 ?_
      refine lv_iload_n hx hb dX8_merges_28 rfl (lv_at hl 1 rfl) ?_
      refine q_ne (tgt := 64) hx hb (q31 (hB _ _)) (q31 hs0) dX8_merges_29 (by decide) (fun g5 => ?_) (fun g5 => ?_)
      · skip
        refine lv_iconst (v := nI 0) hx hb dX8_merges_64 (by decide) ?_
        refine lv_istore (lv' := [(4, .int (nI 0)), (0, .ref (bd 0 0)), (1, .int (nI s0)), (2, .int (nI p)), (3, .int (nI q))]) hx hb dX8_merges_65 hl (by decide) rfl (fun ls hl => ?_)
        refine lv_iload hx hb dX8_merges_67 (lv_at hl 0 rfl) ?_
        refine q_eq0 (tgt := 81) hx hb (by decide) dX8_merges_69 (by decide) (fun g6 => ?_) (fun g6 => (by omega))
        refine lv_iconst (v := -1) hx hb dX8_merges_81 (by decide) ?_
        refine lv_istore (lv' := [(5, .int (-1)), (4, .int (nI 0)), (0, .ref (bd 0 0)), (1, .int (nI s0)), (2, .int (nI p)), (3, .int (nI q))]) hx hb dX8_merges_82 hl (by decide) rfl (fun ls hl => ?_)
        refine lv_iload hx hb dX8_merges_84 (lv_at hl 0 rfl) ?_
        refine lv_iconst (v := -1) hx hb dX8_merges_86 (by decide) ?_
        refine lv_icmp_eq (tgt := 158) hx hb dX8_merges_87 (by decide) (fun g7 => ?_) (fun g7 => absurd g7 (by decide))
        refine lv_iinc (v := nI (q + 1)) (lv' := [(3, .int (nI (q + 1))), (5, .int (-1)), (4, .int (nI 0)), (0, .ref (bd 0 0)), (1, .int (nI s0)), (2, .int (nI p))]) hx hb dX8_merges_158 hl (k := 5) rfl (nI_1 q) (by decide) rfl (fun ls hl => ?_)
        refine lv_goto (tgt := 14) hx hb dX8_merges_161 (by decide) ?_
        exact ihq _ locs ls ⟨rfl, hS, (), fun _ => by have := e_jj (); omega, (), fun _ x x1 x2 => (Nat.lt_succ_iff_lt_or_eq.mp x2).elim (e_j () x x1) (fun z => by rw [z]; exact fun h => g5 h.1), lv_sub hl [3, 4, 5, 0] rfl⟩
      · skip
        refine lv_aload_n hx hb dX8_merges_32 rfl (lv_at hl 0 rfl) ?_
        refine q_get (C := RX8) (T := TX8) (N := 36) hx hb hts iRX8 hown hC.1 (hW.to rLV0) rfl 11 (by decide) (hts (.fieldLink RX8 32 "LogWeaveModel" "sourceOf" "[I") (List.mem_of_getElem? (i := 2) (by decide +kernel))) rfl (v := .ref (bd 8 0)) rfl dX8_merges_33 ?_
        refine lv_iload_n hx hb dX8_merges_36 rfl (lv_at hl 3 rfl) ?_
        refine r_iald hx hb hC.1 (hW.to rLV8) 1 rfl (i := q) (by omega) (by decide) (v := nI (ρ 96 q)) rfl dX8_merges_37 ?_
        refine lv_iload_n hx hb dX8_merges_38 rfl (lv_at hl 1 rfl) ?_
        refine q_ne (tgt := 64) hx hb (q31 (hB _ _)) (q31 hs0) dX8_merges_39 (by decide) (fun g8 => ?_) (fun g8 => ?_)
        · skip
          refine lv_iconst (v := nI 0) hx hb dX8_merges_64 (by decide) ?_
          refine lv_istore (lv' := [(4, .int (nI 0)), (0, .ref (bd 0 0)), (1, .int (nI s0)), (2, .int (nI p)), (3, .int (nI q))]) hx hb dX8_merges_65 hl (by decide) rfl (fun ls hl => ?_)
          refine lv_iload hx hb dX8_merges_67 (lv_at hl 0 rfl) ?_
          refine q_eq0 (tgt := 81) hx hb (by decide) dX8_merges_69 (by decide) (fun g9 => ?_) (fun g9 => (by omega))
          refine lv_iconst (v := -1) hx hb dX8_merges_81 (by decide) ?_
          refine lv_istore (lv' := [(5, .int (-1)), (4, .int (nI 0)), (0, .ref (bd 0 0)), (1, .int (nI s0)), (2, .int (nI p)), (3, .int (nI q))]) hx hb dX8_merges_82 hl (by decide) rfl (fun ls hl => ?_)
          refine lv_iload hx hb dX8_merges_84 (lv_at hl 0 rfl) ?_
          refine lv_iconst (v := -1) hx hb dX8_merges_86 (by decide) ?_
          refine lv_icmp_eq (tgt := 158) hx hb dX8_merges_87 (by decide) (fun g10 => ?_) (fun g10 => absurd g10 (by decide))
          refine lv_iinc (v := nI (q + 1)) (lv' := [(3, .int (nI (q + 1))), (5, .int (-1)), (4, .int (nI 0)), (0, .ref (bd 0 0)), (1, .int (nI s0)), (2, .int (nI p))]) hx hb dX8_merges_158 hl (k := 5) rfl (nI_1 q) (by decide) rfl (fun ls hl => ?_)
          refine lv_goto (tgt := 14) hx hb dX8_merges_161 (by decide) ?_
          exact ihq _ locs ls ⟨rfl, hS, (), fun _ => by have := e_jj (); omega, (), fun _ x x1 x2 => (Nat.lt_succ_iff_lt_or_eq.mp x2).elim (e_j () x x1) (fun z => by rw [z]; exact fun h => g8 h.2.1), lv_sub hl [3, 4, 5, 0] rfl⟩
        · skip
          refine lv_aload_n hx hb dX8_merges_42 rfl (lv_at hl 0 rfl) ?_
          refine q_get (C := RX8) (T := TX8) (N := 36) hx hb hts iRX8 hown hC.1 (hW.to rLV0) rfl 13 (by decide) (hts (.fieldLink RX8 38 "LogWeaveModel" "isMerged" "[Z") (List.mem_of_getElem? (i := 3) (by decide +kernel))) rfl (v := .ref (bd 10 0)) rfl dX8_merges_43 ?_
          refine lv_iload_n hx hb dX8_merges_46 rfl (lv_at hl 2 rfl) ?_
          refine r_zald hx hb hC.1 (hW.to rLV10) 4 rfl (i := p) (by omega) (by decide) (v := nI (ρ 97 p)) rfl dX8_merges_47 ?_
          refine q_ne0 (tgt := 64) hx hb (q31 (hB _ _)) dX8_merges_48 (by decide) (fun g11 => ?_) (fun g11 => ?_)
          · skip
            refine lv_iconst (v := nI 0) hx hb dX8_merges_64 (by decide) ?_
            refine lv_istore (lv' := [(4, .int (nI 0)), (0, .ref (bd 0 0)), (1, .int (nI s0)), (2, .int (nI p)), (3, .int (nI q))]) hx hb dX8_merges_65 hl (by decide) rfl (fun ls hl => ?_)
            refine lv_iload hx hb dX8_merges_67 (lv_at hl 0 rfl) ?_
            refine q_eq0 (tgt := 81) hx hb (by decide) dX8_merges_69 (by decide) (fun g12 => ?_) (fun g12 => (by omega))
            refine lv_iconst (v := -1) hx hb dX8_merges_81 (by decide) ?_
            refine lv_istore (lv' := [(5, .int (-1)), (4, .int (nI 0)), (0, .ref (bd 0 0)), (1, .int (nI s0)), (2, .int (nI p)), (3, .int (nI q))]) hx hb dX8_merges_82 hl (by decide) rfl (fun ls hl => ?_)
            refine lv_iload hx hb dX8_merges_84 (lv_at hl 0 rfl) ?_
            refine lv_iconst (v := -1) hx hb dX8_merges_86 (by decide) ?_
            refine lv_icmp_eq (tgt := 158) hx hb dX8_merges_87 (by decide) (fun g13 => ?_) (fun g13 => absurd g13 (by decide))
            refine lv_iinc (v := nI (q + 1)) (lv' := [(3, .int (nI (q + 1))), (5, .int (-1)), (4, .int (nI 0)), (0, .ref (bd 0 0)), (1, .int (nI s0)), (2, .int (nI p))]) hx hb dX8_merges_158 hl (k := 5) rfl (nI_1 q) (by decide) rfl (fun ls hl => ?_)
            refine lv_goto (tgt := 14) hx hb dX8_merges_161 (by decide) ?_
            exact ihq _ locs ls ⟨rfl, hS, (), fun _ => by have := e_jj (); omega, (), fun _ x x1 x2 => (Nat.lt_succ_iff_lt_or_eq.mp x2).elim (e_j () x x1) (fun z => by rw [z]; exact fun h => g11 h.2.2.1), lv_sub hl [3, 4, 5, 0] rfl⟩
          · skip
            refine lv_aload_n hx hb dX8_merges_51 rfl (lv_at hl 0 rfl) ?_
            refine q_get (C := RX8) (T := TX8) (N := 36) hx hb hts iRX8 hown hC.1 (hW.to rLV0) rfl 13 (by decide) (hts (.fieldLink RX8 38 "LogWeaveModel" "isMerged" "[Z") (List.mem_of_getElem? (i := 3) (by decide +kernel))) rfl (v := .ref (bd 10 0)) rfl dX8_merges_52 ?_
            refine lv_iload_n hx hb dX8_merges_55 rfl (lv_at hl 3 rfl) ?_
            refine r_zald hx hb hC.1 (hW.to rLV10) 4 rfl (i := q) (by omega) (by decide) (v := nI (ρ 97 q)) rfl dX8_merges_56 ?_
            refine q_ne0 (tgt := 64) hx hb (q31 (hB _ _)) dX8_merges_57 (by decide) (fun g14 => ?_) (fun g14 => ?_)
            · skip
              refine lv_iconst (v := nI 0) hx hb dX8_merges_64 (by decide) ?_
              refine lv_istore (lv' := [(4, .int (nI 0)), (0, .ref (bd 0 0)), (1, .int (nI s0)), (2, .int (nI p)), (3, .int (nI q))]) hx hb dX8_merges_65 hl (by decide) rfl (fun ls hl => ?_)
              refine lv_iload hx hb dX8_merges_67 (lv_at hl 0 rfl) ?_
              refine q_eq0 (tgt := 81) hx hb (by decide) dX8_merges_69 (by decide) (fun g15 => ?_) (fun g15 => (by omega))
              refine lv_iconst (v := -1) hx hb dX8_merges_81 (by decide) ?_
              refine lv_istore (lv' := [(5, .int (-1)), (4, .int (nI 0)), (0, .ref (bd 0 0)), (1, .int (nI s0)), (2, .int (nI p)), (3, .int (nI q))]) hx hb dX8_merges_82 hl (by decide) rfl (fun ls hl => ?_)
              refine lv_iload hx hb dX8_merges_84 (lv_at hl 0 rfl) ?_
              refine lv_iconst (v := -1) hx hb dX8_merges_86 (by decide) ?_
              refine lv_icmp_eq (tgt := 158) hx hb dX8_merges_87 (by decide) (fun g16 => ?_) (fun g16 => absurd g16 (by decide))
              refine lv_iinc (v := nI (q + 1)) (lv' := [(3, .int (nI (q + 1))), (5, .int (-1)), (4, .int (nI 0)), (0, .ref (bd 0 0)), (1, .int (nI s0)), (2, .int (nI p))]) hx hb dX8_merges_158 hl (k := 5) rfl (nI_1 q) (by decide) rfl (fun ls hl => ?_)
              refine lv_goto (tgt := 14) hx hb dX8_merges_161 (by decide) ?_
              exact ihq _ locs ls ⟨rfl, hS, (), fun _ => by have := e_jj (); omega, (), fun _ x x1 x2 => (Nat.lt_succ_iff_lt_or_eq.mp x2).elim (e_j () x x1) (fun z => by rw [z]; exact fun h => g14 h.2.2.2.1), lv_sub hl [3, 4, 5, 0] rfl⟩
            · skip
              refine lv_iconst (v := nI 1) hx hb dX8_merges_60 (by decide) ?_
              refine lv_goto (tgt := 65) hx hb dX8_merges_61 (by decide) ?_
              refine lv_istore (lv' := [(4, .int (nI 1)), (0, .ref (bd 0 0)), (1, .int (nI s0)), (2, .int (nI p)), (3, .int (nI q))]) hx hb dX8_merges_65 hl (by decide) rfl (fun ls hl => ?_)
              refine lv_iload hx hb dX8_merges_67 (lv_at hl 0 rfl) ?_
              refine q_eq0 (tgt := 81) hx hb (by decide) dX8_merges_69 (by decide) (fun g17 => (by omega)) (fun g17 => ?_)
              refine lv_aload_n hx hb dX8_merges_72 rfl (lv_at hl 1 rfl) ?_
              refine lv_iload_n hx hb dX8_merges_73 rfl (lv_at hl 3 rfl) ?_
              refine lv_iload_n hx hb dX8_merges_74 rfl (lv_at hl 4 rfl) ?_
              obtain ⟨d, hd⟩ := rDi_ex ρ p q
              have hd0 := hd
              rcases hd with ⟨h1, h2⟩ | ⟨h1, k, k1, k2, k3⟩
              · skip
                refine q_v (va_runV (As := [.int (nI p), .int (nI q)]) (rest := []) ⟨hx, hb, hml, hown, hts⟩ (m_rdifference l G A ρ bd hF p q d (by omega) hi hd0) (cwV 2 hts gX8_merges_X8_difference rfl rfl rfl (by decide +kernel) ⟨Nat.le_of_ble_eq_true rfl, Nat.le_of_ble_eq_true rfl⟩) ⟨rR.blind, qrecv hC (hW.to rLV0) rfl, rR.pre hC hW⟩ rfl rfl hl.1 rfl (lv_room (Nat.le_of_ble_eq_true rfl)) dX8_merges_75 ⟨Nat.le_of_ble_eq_true rfl, Nat.le_of_ble_eq_true rfl⟩) hS (fun _ h => h.elim) (fun locs hS => ?_)
                subst h1
                refine q_ti (y := -1) (by decide) ?_
                refine lv_goto (tgt := 82) hx hb dX8_merges_78 (by decide) ?_
                refine lv_istore (lv' := [(5, .int (-1)), (4, .int (nI 1)), (0, .ref (bd 0 0)), (1, .int (nI s0)), (2, .int (nI p)), (3, .int (nI q))]) hx hb dX8_merges_82 hl (by decide) rfl (fun ls hl => ?_)
                refine lv_iload hx hb dX8_merges_84 (lv_at hl 0 rfl) ?_
                refine lv_iconst (v := -1) hx hb dX8_merges_86 (by decide) ?_
                refine lv_icmp_eq (tgt := 158) hx hb dX8_merges_87 (by decide) (fun g18 => ?_) (fun g18 => absurd g18 (by decide))
                refine lv_iinc (v := nI (q + 1)) (lv' := [(3, .int (nI (q + 1))), (5, .int (-1)), (4, .int (nI 1)), (0, .ref (bd 0 0)), (1, .int (nI s0)), (2, .int (nI p))]) hx hb dX8_merges_158 hl (k := 5) rfl (nI_1 q) (by decide) rfl (fun ls hl => ?_)
                refine lv_goto (tgt := 14) hx hb dX8_merges_161 (by decide) ?_
                exact ihq _ locs ls ⟨rfl, hS, (), fun _ => by have := e_jj (); omega, (), fun _ x x1 x2 => (Nat.lt_succ_iff_lt_or_eq.mp x2).elim (e_j () x x1) (fun z => by rw [z]; exact fun h => h2 h.2.2.2.2), lv_sub hl [3, 4, 5, 0] rfl⟩
              · skip
                exact absurd ⟨g5, g8, g11, g14, h1⟩ (hm p q (by have := e_jj (); omega) hi)
set_option maxHeartbeats 4000000 in
set_option maxRecDepth 100000 in
theorem m_rmerges1 (l : Launch) (G : QG) (A : Nat → Prop) (ρ bd : QSt) (hF : rWF ρ) (s0 p0 q0 : Nat) (hs0 : s0 < 1073741824) (hm : rM1 ρ s0 p0 q0) : Met l yX8_merges wsX8_merges ({ frames := 1, cells := 0, slots := 0, locals := 25 } : Room) (rR G A ρ bd [.ref (bd 0 0), .int (nI s0)]) (qWV (some (.int (nI 1))) (rW G A (qfM ρ p0 q0) bd) A) 0 0 A := by
  refine Met.ofW (cc := cX8_merges) (maxL := 7) (ret := (some .boolean)) (by decide) rfl ?_
  intro p e s m args below meth c s₁ B hml hv
  obtain ⟨rfl, hC, hW⟩ := hv
  have hx := B.exec
  have hb := B.bytes
  have hr := B.returns
  have hts := atoms_spec (ws := wsX8_merges) B.pre
  have hown : s.vm.findClass RX8 = some m.cls := findClass_of_methodNamed B.named
  have hlocks := B.notSynchronized
  have hB := hF.1
  have hn := hF.n
  have hS : va_S A s.heap s.heap [] := va_S.rf
  have hl := lv_entry ([.ref (bd 0 0), .int (nI s0)]) (n := 7) (Nat.le_of_ble_eq_true rfl)
  rw [lg_entry_eq]
  generalize (lg_sl ([.ref (bd 0 0), .int (nI s0)]) ++ List.replicate (7 - (lg_sl ([.ref (bd 0 0), .int (nI s0)])).length) Slot.unset).toArray = ls at hl ⊢
  have hl : lv_has ls 7 [(0, .ref (bd 0 0)), (1, .int (nI s0))] := hl
  have iRX8 : ∀ w ∈ wsX80, w ∈ wsX8_merges := by decide +kernel
  obtain ⟨hpq, hq0, hmy, hmin⟩ := hm
  refine lv_iconst (v := nI 0) hx hb dX8_merges_0 (by decide) ?_
  refine lv_istore_n (lv' := [(2, .int (nI 0)), (0, .ref (bd 0 0)), (1, .int (nI s0))]) hx hb dX8_merges_1 rfl hl (by decide) rfl (fun ls hl => ?_)
  refine q_up (ρ 0 1) (fun p H9 locs ls => H9 = s.heap ∧ va_S A s.heap H9 locs ∧ ∃ (h : Unit), (Unit → p ≤ p0) ∧ lv_has ls 7 [(0, .ref (bd 0 0)), (1, .int (nI s0)), (2, .int (nI p))]) ?_ ?_ (i0 := 0) (Nat.zero_le _) ⟨rfl, hS, (), fun _ => Nat.zero_le _, lv_sub hl [1, 2, 0] rfl⟩
  · rintro _ locs ls ⟨rfl, hS, h, e_h, hl⟩
    refine lv_iload_n hx hb dX8_merges_2 rfl (lv_at hl 2 rfl) ?_
    refine lv_aload_n hx hb dX8_merges_3 rfl (lv_at hl 0 rfl) ?_
    refine q_get (C := RX8) (T := TX8) (N := 36) hx hb hts iRX8 hown hC.1 (hW.to rLV0) rfl 10 (by decide) (hts (.fieldLink RX8 111 "LogWeaveModel" "patterns" "I") (List.mem_of_getElem? (i := 1) (by decide +kernel))) rfl (v := .int (nI (ρ 0 1))) rfl dX8_merges_4 ?_
    refine q_ge (tgt := 170) hx hb (q31 (hB _ _)) (q31 (hB _ _)) dX8_merges_7 (by decide) (fun g1 => ?_) (fun g1 => (by omega))
    refine lv_iconst (v := nI 0) hx hb dX8_merges_170 (by decide) ?_
    exact absurd (e_h ()) (by omega)
  · rintro p _ locs ls hi ⟨rfl, hS, h, e_h, hl⟩ ihp
    refine lv_iload_n hx hb dX8_merges_2 rfl (lv_at hl 2 rfl) ?_
    refine lv_aload_n hx hb dX8_merges_3 rfl (lv_at hl 0 rfl) ?_
    refine q_get (C := RX8) (T := TX8) (N := 36) hx hb hts iRX8 hown hC.1 (hW.to rLV0) rfl 10 (by decide) (hts (.fieldLink RX8 111 "LogWeaveModel" "patterns" "I") (List.mem_of_getElem? (i := 1) (by decide +kernel))) rfl (v := .int (nI (ρ 0 1))) rfl dX8_merges_4 ?_
    refine q_ge (tgt := 170) hx hb (by omega) (q31 (hB _ _)) dX8_merges_7 (by decide) (fun g2 => (by omega)) (fun g2 => ?_)
    refine lv_iload_n hx hb dX8_merges_10 rfl (lv_at hl 2 rfl) ?_
    refine lv_iconst (v := nI 1) hx hb dX8_merges_11 (by decide) ?_
    refine lv_iadd hx hb dX8_merges_12 ?_
    refine q_ti (nI_add p 1) ?_
    refine lv_istore_n (lv' := [(3, .int (nI (p + 1))), (0, .ref (bd 0 0)), (1, .int (nI s0)), (2, .int (nI p))]) hx hb dX8_merges_13 rfl hl (by decide) rfl (fun ls hl => ?_)
    have hle : p < p0 ∨ p = p0 := by have := e_h (); omega
    refine q_up (ρ 0 1) (fun q H9 locs ls => H9 = s.heap ∧ va_S A s.heap H9 locs ∧ ∃ (jj : Unit), (Unit → p < q) ∧ ∃ (j : Unit), (Unit → (∀ x, p < x → x < q → ¬ rMy ρ s0 p x)) ∧ lv_has ls 7 [(0, .ref (bd 0 0)), (1, .int (nI s0)), (2, .int (nI p)), (3, .int (nI q))]) ?_ ?_ (i0 := (p + 1)) (by omega) ⟨rfl, hS, (), fun _ => Nat.lt_succ_self _, (), fun _ x x1 x2 => absurd x1 (by omega), lv_sub hl [1, 2, 3, 0] rfl⟩
    · rintro _ locs ls ⟨rfl, hS, jj, e_jj, j, e_j, hl⟩
      refine lv_iload_n hx hb dX8_merges_14 rfl (lv_at hl 3 rfl) ?_
      refine lv_aload_n hx hb dX8_merges_15 rfl (lv_at hl 0 rfl) ?_
      refine q_get (C := RX8) (T := TX8) (N := 36) hx hb hts iRX8 hown hC.1 (hW.to rLV0) rfl 10 (by decide) (hts (.fieldLink RX8 111 "LogWeaveModel" "patterns" "I") (List.mem_of_getElem? (i := 1) (by decide +kernel))) rfl (v := .int (nI (ρ 0 1))) rfl dX8_merges_16 ?_
      refine q_ge (tgt := 164) hx hb (q31 (hB _ _)) (q31 (hB _ _)) dX8_merges_19 (by decide) (fun g3 => ?_) (fun g3 => (by omega))
      have hp : p < p0 := by rcases hle with z | z; exact z; subst z; exact absurd hmy (e_j () q0 hpq hq0)
      refine lv_iinc (v := nI (p + 1)) (lv' := [(2, .int (nI (p + 1))), (0, .ref (bd 0 0)), (1, .int (nI s0)), (3, .int (nI (ρ 0 1)))]) hx hb dX8_merges_164 hl (k := 2) rfl (nI_1 p) (by decide) rfl (fun ls hl => ?_)
      refine lv_goto (tgt := 2) hx hb dX8_merges_167 (by decide) ?_
      exact ihp _ locs ls ⟨rfl, hS, (), fun _ => by omega, lv_sub hl [1, 2, 0] rfl⟩
    · rintro q _ locs ls hi ⟨rfl, hS, jj, e_jj, j, e_j, hl⟩ ihq
      refine lv_iload_n hx hb dX8_merges_14 rfl (lv_at hl 3 rfl) ?_
      refine lv_aload_n hx hb dX8_merges_15 rfl (lv_at hl 0 rfl) ?_
      refine q_get (C := RX8) (T := TX8) (N := 36) hx hb hts iRX8 hown hC.1 (hW.to rLV0) rfl 10 (by decide) (hts (.fieldLink RX8 111 "LogWeaveModel" "patterns" "I") (List.mem_of_getElem? (i := 1) (by decide +kernel))) rfl (v := .int (nI (ρ 0 1))) rfl dX8_merges_16 ?_
      refine q_ge (tgt := 164) hx hb (by omega) (q31 (hB _ _)) dX8_merges_19 (by decide) (fun g4 => (by omega)) (fun g4 => ?_)
      refine lv_aload_n hx hb dX8_merges_22 rfl (lv_at hl 0 rfl) ?_
      refine q_get (C := RX8) (T := TX8) (N := 36) hx hb hts iRX8 hown hC.1 (hW.to rLV0) rfl 11 (by decide) (hts (.fieldLink RX8 32 "LogWeaveModel" "sourceOf" "[I") (List.mem_of_getElem? (i := 2) (by decide +kernel))) rfl (v := .ref (bd 8 0)) rfl dX8_merges_23 ?_
      refine lv_iload_n hx hb dX8_merges_26 rfl (lv_at hl 2 rfl) ?_
      refine r_iald hx hb hC.1 (hW.to rLV8) 1 rfl (i := p) (by omega) (by decide) (v := nI (ρ 96 p)) rfl dX8_merges_27 ?_
      refine lv_iload_n hx hb dX8_merges_28 rfl (lv_at hl 1 rfl) ?_
      refine q_ne (tgt := 64) hx hb (q31 (hB _ _)) (q31 hs0) dX8_merges_29 (by decide) (fun g5 => ?_) (fun g5 => ?_)
      · skip
        refine lv_iconst (v := nI 0) hx hb dX8_merges_64 (by decide) ?_
        refine lv_istore (lv' := [(4, .int (nI 0)), (0, .ref (bd 0 0)), (1, .int (nI s0)), (2, .int (nI p)), (3, .int (nI q))]) hx hb dX8_merges_65 hl (by decide) rfl (fun ls hl => ?_)
        refine lv_iload hx hb dX8_merges_67 (lv_at hl 0 rfl) ?_
        refine q_eq0 (tgt := 81) hx hb (by decide) dX8_merges_69 (by decide) (fun g6 => ?_) (fun g6 => (by omega))
        refine lv_iconst (v := -1) hx hb dX8_merges_81 (by decide) ?_
        refine lv_istore (lv' := [(5, .int (-1)), (4, .int (nI 0)), (0, .ref (bd 0 0)), (1, .int (nI s0)), (2, .int (nI p)), (3, .int (nI q))]) hx hb dX8_merges_82 hl (by decide) rfl (fun ls hl => ?_)
        refine lv_iload hx hb dX8_merges_84 (lv_at hl 0 rfl) ?_
        refine lv_iconst (v := -1) hx hb dX8_merges_86 (by decide) ?_
        refine lv_icmp_eq (tgt := 158) hx hb dX8_merges_87 (by decide) (fun g7 => ?_) (fun g7 => absurd g7 (by decide))
        refine lv_iinc (v := nI (q + 1)) (lv' := [(3, .int (nI (q + 1))), (5, .int (-1)), (4, .int (nI 0)), (0, .ref (bd 0 0)), (1, .int (nI s0)), (2, .int (nI p))]) hx hb dX8_merges_158 hl (k := 5) rfl (nI_1 q) (by decide) rfl (fun ls hl => ?_)
        refine lv_goto (tgt := 14) hx hb dX8_merges_161 (by decide) ?_
        exact ihq _ locs ls ⟨rfl, hS, (), fun _ => by have := e_jj (); omega, (), fun _ x x1 x2 => (Nat.lt_succ_iff_lt_or_eq.mp x2).elim (e_j () x x1) (fun z => by rw [z]; exact fun h => g5 h.1), lv_sub hl [3, 4, 5, 0] rfl⟩
      · skip
        refine lv_aload_n hx hb dX8_merges_32 rfl (lv_at hl 0 rfl) ?_
        refine q_get (C := RX8) (T := TX8) (N := 36) hx hb hts iRX8 hown hC.1 (hW.to rLV0) rfl 11 (by decide) (hts (.fieldLink RX8 32 "LogWeaveModel" "sourceOf" "[I") (List.mem_of_getElem? (i := 2) (by decide +kernel))) rfl (v := .ref (bd 8 0)) rfl dX8_merges_33 ?_
        refine lv_iload_n hx hb dX8_merges_36 rfl (lv_at hl 3 rfl) ?_
        refine r_iald hx hb hC.1 (hW.to rLV8) 1 rfl (i := q) (by omega) (by decide) (v := nI (ρ 96 q)) rfl dX8_merges_37 ?_
        refine lv_iload_n hx hb dX8_merges_38 rfl (lv_at hl 1 rfl) ?_
        refine q_ne (tgt := 64) hx hb (q31 (hB _ _)) (q31 hs0) dX8_merges_39 (by decide) (fun g8 => ?_) (fun g8 => ?_)
        · skip
          refine lv_iconst (v := nI 0) hx hb dX8_merges_64 (by decide) ?_
          refine lv_istore (lv' := [(4, .int (nI 0)), (0, .ref (bd 0 0)), (1, .int (nI s0)), (2, .int (nI p)), (3, .int (nI q))]) hx hb dX8_merges_65 hl (by decide) rfl (fun ls hl => ?_)
          refine lv_iload hx hb dX8_merges_67 (lv_at hl 0 rfl) ?_
          refine q_eq0 (tgt := 81) hx hb (by decide) dX8_merges_69 (by decide) (fun g9 => ?_) (fun g9 => (by omega))
          refine lv_iconst (v := -1) hx hb dX8_merges_81 (by decide) ?_
          refine lv_istore (lv' := [(5, .int (-1)), (4, .int (nI 0)), (0, .ref (bd 0 0)), (1, .int (nI s0)), (2, .int (nI p)), (3, .int (nI q))]) hx hb dX8_merges_82 hl (by decide) rfl (fun ls hl => ?_)
          refine lv_iload hx hb dX8_merges_84 (lv_at hl 0 rfl) ?_
          refine lv_iconst (v := -1) hx hb dX8_merges_86 (by decide) ?_
          refine lv_icmp_eq (tgt := 158) hx hb dX8_merges_87 (by decide) (fun g10 => ?_) (fun g10 => absurd g10 (by decide))
          refine lv_iinc (v := nI (q + 1)) (lv' := [(3, .int (nI (q + 1))), (5, .int (-1)), (4, .int (nI 0)), (0, .ref (bd 0 0)), (1, .int (nI s0)), (2, .int (nI p))]) hx hb dX8_merges_158 hl (k := 5) rfl (nI_1 q) (by decide) rfl (fun ls hl => ?_)
          refine lv_goto (tgt := 14) hx hb dX8_merges_161 (by decide) ?_
          exact ihq _ locs ls ⟨rfl, hS, (), fun _ => by have := e_jj (); omega, (), fun _ x x1 x2 => (Nat.lt_succ_iff_lt_or_eq.mp x2).elim (e_j () x x1) (fun z => by rw [z]; exact fun h => g8 h.2.1), lv_sub hl [3, 4, 5, 0] rfl⟩
        · skip
          refine lv_aload_n hx hb dX8_merges_42 rfl (lv_at hl 0 rfl) ?_
          refine q_get (C := RX8) (T := TX8) (N := 36) hx hb hts iRX8 hown hC.1 (hW.to rLV0) rfl 13 (by decide) (hts (.fieldLink RX8 38 "LogWeaveModel" "isMerged" "[Z") (List.mem_of_getElem? (i := 3) (by decide +kernel))) rfl (v := .ref (bd 10 0)) rfl dX8_merges_43 ?_
          refine lv_iload_n hx hb dX8_merges_46 rfl (lv_at hl 2 rfl) ?_
          refine r_zald hx hb hC.1 (hW.to rLV10) 4 rfl (i := p) (by omega) (by decide) (v := nI (ρ 97 p)) rfl dX8_merges_47 ?_
          refine q_ne0 (tgt := 64) hx hb (q31 (hB _ _)) dX8_merges_48 (by decide) (fun g11 => ?_) (fun g11 => ?_)
          · skip
            refine lv_iconst (v := nI 0) hx hb dX8_merges_64 (by decide) ?_
            refine lv_istore (lv' := [(4, .int (nI 0)), (0, .ref (bd 0 0)), (1, .int (nI s0)), (2, .int (nI p)), (3, .int (nI q))]) hx hb dX8_merges_65 hl (by decide) rfl (fun ls hl => ?_)
            refine lv_iload hx hb dX8_merges_67 (lv_at hl 0 rfl) ?_
            refine q_eq0 (tgt := 81) hx hb (by decide) dX8_merges_69 (by decide) (fun g12 => ?_) (fun g12 => (by omega))
            refine lv_iconst (v := -1) hx hb dX8_merges_81 (by decide) ?_
            refine lv_istore (lv' := [(5, .int (-1)), (4, .int (nI 0)), (0, .ref (bd 0 0)), (1, .int (nI s0)), (2, .int (nI p)), (3, .int (nI q))]) hx hb dX8_merges_82 hl (by decide) rfl (fun ls hl => ?_)
            refine lv_iload hx hb dX8_merges_84 (lv_at hl 0 rfl) ?_
            refine lv_iconst (v := -1) hx hb dX8_merges_86 (by decide) ?_
            refine lv_icmp_eq (tgt := 158) hx hb dX8_merges_87 (by decide) (fun g13 => ?_) (fun g13 => absurd g13 (by decide))
            refine lv_iinc (v := nI (q + 1)) (lv' := [(3, .int (nI (q + 1))), (5, .int (-1)), (4, .int (nI 0)), (0, .ref (bd 0 0)), (1, .int (nI s0)), (2, .int (nI p))]) hx hb dX8_merges_158 hl (k := 5) rfl (nI_1 q) (by decide) rfl (fun ls hl => ?_)
            refine lv_goto (tgt := 14) hx hb dX8_merges_161 (by decide) ?_
            exact ihq _ locs ls ⟨rfl, hS, (), fun _ => by have := e_jj (); omega, (), fun _ x x1 x2 => (Nat.lt_succ_iff_lt_or_eq.mp x2).elim (e_j () x x1) (fun z => by rw [z]; exact fun h => g11 h.2.2.1), lv_sub hl [3, 4, 5, 0] rfl⟩
          · skip
            refine lv_aload_n hx hb dX8_merges_51 rfl (lv_at hl 0 rfl) ?_
            refine q_get (C := RX8) (T := TX8) (N := 36) hx hb hts iRX8 hown hC.1 (hW.to rLV0) rfl 13 (by decide) (hts (.fieldLink RX8 38 "LogWeaveModel" "isMerged" "[Z") (List.mem_of_getElem? (i := 3) (by decide +kernel))) rfl (v := .ref (bd 10 0)) rfl dX8_merges_52 ?_
            refine lv_iload_n hx hb dX8_merges_55 rfl (lv_at hl 3 rfl) ?_
            refine r_zald hx hb hC.1 (hW.to rLV10) 4 rfl (i := q) (by omega) (by decide) (v := nI (ρ 97 q)) rfl dX8_merges_56 ?_
            refine q_ne0 (tgt := 64) hx hb (q31 (hB _ _)) dX8_merges_57 (by decide) (fun g14 => ?_) (fun g14 => ?_)
            · skip
              refine lv_iconst (v := nI 0) hx hb dX8_merges_64 (by decide) ?_
              refine lv_istore (lv' := [(4, .int (nI 0)), (0, .ref (bd 0 0)), (1, .int (nI s0)), (2, .int (nI p)), (3, .int (nI q))]) hx hb dX8_merges_65 hl (by decide) rfl (fun ls hl => ?_)
              refine lv_iload hx hb dX8_merges_67 (lv_at hl 0 rfl) ?_
              refine q_eq0 (tgt := 81) hx hb (by decide) dX8_merges_69 (by decide) (fun g15 => ?_) (fun g15 => (by omega))
              refine lv_iconst (v := -1) hx hb dX8_merges_81 (by decide) ?_
              refine lv_istore (lv' := [(5, .int (-1)), (4, .int (nI 0)), (0, .ref (bd 0 0)), (1, .int (nI s0)), (2, .int (nI p)), (3, .int (nI q))]) hx hb dX8_merges_82 hl (by decide) rfl (fun ls hl => ?_)
              refine lv_iload hx hb dX8_merges_84 (lv_at hl 0 rfl) ?_
              refine lv_iconst (v := -1) hx hb dX8_merges_86 (by decide) ?_
              refine lv_icmp_eq (tgt := 158) hx hb dX8_merges_87 (by decide) (fun g16 => ?_) (fun g16 => absurd g16 (by decide))
              refine lv_iinc (v := nI (q + 1)) (lv' := [(3, .int (nI (q + 1))), (5, .int (-1)), (4, .int (nI 0)), (0, .ref (bd 0 0)), (1, .int (nI s0)), (2, .int (nI p))]) hx hb dX8_merges_158 hl (k := 5) rfl (nI_1 q) (by decide) rfl (fun ls hl => ?_)
              refine lv_goto (tgt := 14) hx hb dX8_merges_161 (by decide) ?_
              exact ihq _ locs ls ⟨rfl, hS, (), fun _ => by have := e_jj (); omega, (), fun _ x x1 x2 => (Nat.lt_succ_iff_lt_or_eq.mp x2).elim (e_j () x x1) (fun z => by rw [z]; exact fun h => g14 h.2.2.2.1), lv_sub hl [3, 4, 5, 0] rfl⟩
            · skip
              refine lv_iconst (v := nI 1) hx hb dX8_merges_60 (by decide) ?_
              refine lv_goto (tgt := 65) hx hb dX8_merges_61 (by decide) ?_
              refine lv_istore (lv' := [(4, .int (nI 1)), (0, .ref (bd 0 0)), (1, .int (nI s0)), (2, .int (nI p)), (3, .int (nI q))]) hx hb dX8_merges_65 hl (by decide) rfl (fun ls hl => ?_)
              refine lv_iload hx hb dX8_merges_67 (lv_at hl 0 rfl) ?_
              refine q_eq0 (tgt := 81) hx hb (by decide) dX8_merges_69 (by decide) (fun g17 => (by omega)) (fun g17 => ?_)
              refine lv_aload_n hx hb dX8_merges_72 rfl (lv_at hl 1 rfl) ?_
              refine lv_iload_n hx hb dX8_merges_73 rfl (lv_at hl 3 rfl) ?_
              refine lv_iload_n hx hb dX8_merges_74 rfl (lv_at hl 4 rfl) ?_
              obtain ⟨d, hd⟩ := rDi_ex ρ p q
              have hd0 := hd
              rcases hd with ⟨h1, h2⟩ | ⟨h1, k, k1, k2, k3⟩
              · skip
                refine q_v (va_runV (As := [.int (nI p), .int (nI q)]) (rest := []) ⟨hx, hb, hml, hown, hts⟩ (m_rdifference l G A ρ bd hF p q d (by omega) hi hd0) (cwV 2 hts gX8_merges_X8_difference rfl rfl rfl (by decide +kernel) ⟨Nat.le_of_ble_eq_true rfl, Nat.le_of_ble_eq_true rfl⟩) ⟨rR.blind, qrecv hC (hW.to rLV0) rfl, rR.pre hC hW⟩ rfl rfl hl.1 rfl (lv_room (Nat.le_of_ble_eq_true rfl)) dX8_merges_75 ⟨Nat.le_of_ble_eq_true rfl, Nat.le_of_ble_eq_true rfl⟩) hS (fun _ h => h.elim) (fun locs hS => ?_)
                subst h1
                refine q_ti (y := -1) (by decide) ?_
                refine lv_goto (tgt := 82) hx hb dX8_merges_78 (by decide) ?_
                refine lv_istore (lv' := [(5, .int (-1)), (4, .int (nI 1)), (0, .ref (bd 0 0)), (1, .int (nI s0)), (2, .int (nI p)), (3, .int (nI q))]) hx hb dX8_merges_82 hl (by decide) rfl (fun ls hl => ?_)
                refine lv_iload hx hb dX8_merges_84 (lv_at hl 0 rfl) ?_
                refine lv_iconst (v := -1) hx hb dX8_merges_86 (by decide) ?_
                refine lv_icmp_eq (tgt := 158) hx hb dX8_merges_87 (by decide) (fun g18 => ?_) (fun g18 => absurd g18 (by decide))
                refine lv_iinc (v := nI (q + 1)) (lv' := [(3, .int (nI (q + 1))), (5, .int (-1)), (4, .int (nI 1)), (0, .ref (bd 0 0)), (1, .int (nI s0)), (2, .int (nI p))]) hx hb dX8_merges_158 hl (k := 5) rfl (nI_1 q) (by decide) rfl (fun ls hl => ?_)
                refine lv_goto (tgt := 14) hx hb dX8_merges_161 (by decide) ?_
                exact ihq _ locs ls ⟨rfl, hS, (), fun _ => by have := e_jj (); omega, (), fun _ x x1 x2 => (Nat.lt_succ_iff_lt_or_eq.mp x2).elim (e_j () x x1) (fun z => by rw [z]; exact fun h => h2 h.2.2.2.2), lv_sub hl [3, 4, 5, 0] rfl⟩
              · skip
                have hthis : rMy ρ s0 p q := ⟨g5, g8, g11, g14, h1⟩
                have hp : p = p0 := by rcases hle with z | z; exact absurd hthis (hmin p q (by have := e_jj (); omega) hi (Or.inl z)); exact z
                have hq : q = q0 := by rcases Nat.lt_trichotomy q q0 with z | z | z; exact absurd hthis (hmin p q (by have := e_jj (); omega) hi (Or.inr ⟨hp, z⟩)); exact z; exact absurd (by rw [hp]; exact hmy) (e_j () q0 (by omega) z)
                subst hp
                subst hq
                refine q_v (va_runV (As := [.int (nI p), .int (nI q)]) (rest := []) ⟨hx, hb, hml, hown, hts⟩ (m_rdifference l G A ρ bd hF p q d (by omega) hi hd0) (cwV 2 hts gX8_merges_X8_difference rfl rfl rfl (by decide +kernel) ⟨Nat.le_of_ble_eq_true rfl, Nat.le_of_ble_eq_true rfl⟩) ⟨rR.blind, qrecv hC (hW.to rLV0) rfl, rR.pre hC hW⟩ rfl rfl hl.1 rfl (lv_room (Nat.le_of_ble_eq_true rfl)) dX8_merges_75 ⟨Nat.le_of_ble_eq_true rfl, Nat.le_of_ble_eq_true rfl⟩) hS (fun _ h => h.elim) (fun locs hS => ?_)
                subst k2
                refine q_ti (y := nI k) (nI_pred k) ?_
                refine lv_goto (tgt := 82) hx hb dX8_merges_78 (by decide) ?_
                refine lv_istore (lv' := [(5, .int (nI k)), (4, .int (nI 1)), (0, .ref (bd 0 0)), (1, .int (nI s0)), (2, .int (nI p)), (3, .int (nI q))]) hx hb dX8_merges_82 hl (by decide) rfl (fun ls hl => ?_)
                refine lv_iload hx hb dX8_merges_84 (lv_at hl 0 rfl) ?_
                refine lv_iconst (v := -1) hx hb dX8_merges_86 (by decide) ?_
                refine q_eqP hx hb (r_nm1 (by omega)) dX8_merges_87 (tgt := 158) (by decide) (fun g19 => absurd g19 (by omega)) (fun g19 => ?_)
                refine lv_aload_n hx hb dX8_merges_90 rfl (lv_at hl 2 rfl) ?_
                refine q_get (C := RX8) (T := TX8) (N := 36) hx hb hts iRX8 hown hC.1 (hW.to rLV0) rfl 12 (by decide) (hts (.fieldLink RX8 35 "LogWeaveModel" "part" "[I") (List.mem_of_getElem? (i := 4) (by decide +kernel))) rfl (v := .ref (bd 9 0)) rfl dX8_merges_91 ?_
                refine lv_iconst (v := nI 3) hx hb dX8_merges_94 (by decide) ?_
                refine lv_iload_n hx hb dX8_merges_95 rfl (lv_at hl 4 rfl) ?_
                refine lv_imul hx hb dX8_merges_96 ?_
                refine q_ti (pk_mul 3 p) ?_
                refine lv_iload hx hb dX8_merges_97 (lv_at hl 0 rfl) ?_
                refine lv_iadd hx hb dX8_merges_99 ?_
                refine q_ti (nI_add (3 * p) k) ?_
                refine lv_iconst (v := -1) hx hb dX8_merges_100 (by decide) ?_
                refine q_iast hx hb hC.1 (hW.to rLV9) (hW.in rLV9) hS 1 rfl (vp_in_nI (n := ((3 * p) + k)) (by omega) (by decide)) dX8_merges_101 (fun H1 locs hat hsz hoq hS => ?_)
                rw [nI_clamp (n := ((3 * p) + k)) (by omega)] at hat
                rw [r_m1] at hat
                rw [r_upd3m ρ 112 p k 0 (by omega)] at hat
                have hW := hW.upR (112 + k) p 0 (r_kd112 (by omega)) rLV9 (rLV9 (ρ := (qup ρ (112 + k) p 0))) hat hoq
                refine lv_aload_n hx hb dX8_merges_102 rfl (lv_at hl 2 rfl) ?_
                refine q_get (C := RX8) (T := TX8) (N := 36) hx hb hts iRX8 hown hC.1 (hW.to rLV0) rfl 13 (by decide) (hts (.fieldLink RX8 38 "LogWeaveModel" "isMerged" "[Z") (List.mem_of_getElem? (i := 3) (by decide +kernel))) rfl (v := .ref (bd 10 0)) rfl dX8_merges_103 ?_
                refine lv_iload_n hx hb dX8_merges_106 rfl (lv_at hl 5 rfl) ?_
                refine lv_iconst (v := nI 1) hx hb dX8_merges_107 (by decide) ?_
                refine q_zast hx hb hC.1 (hW.to rLV10) (hW.in rLV10) hS 4 rfl (vp_in_nI (n := q) (by omega) (by decide)) dX8_merges_108 (fun H1 locs hat hsz hoq hS => ?_)
                rw [nI_clamp (n := q) (by omega)] at hat
                rw [show vp_nar .boolean (nI 1) = nI 1 from by decide] at hat
                rw [r_upd (qup ρ (112 + k) p 0) 97 q 1] at hat
                have hW := hW.upR 97 q 1 rfl rLV10 (rLV10 (ρ := (qup (qup ρ (112 + k) p 0) 97 q 1))) hat hoq
                have e3 : qup (qup ρ (112 + k) p 0) 97 q 1 = qup (qfMw ρ p q 3) 97 q 1 := by rw [qfMw_1 k1 h1 k3]
                rw [e3] at hW
                have hX : ∀ r j, (qup (qfMw ρ p q 3) 97 q 1) r j < 1073741824 := qup_b (qfMw_b hB p q 3) (by decide) _ _
                refine lv_iconst (v := nI 0) hx hb dX8_merges_109 (by decide) ?_
                refine lv_istore (lv' := [(6, .int (nI 0)), (5, .int (nI k)), (4, .int (nI 1)), (0, .ref (bd 0 0)), (1, .int (nI s0)), (2, .int (nI p)), (3, .int (nI q))]) hx hb dX8_merges_110 hl (by decide) rfl (fun ls hl => ?_)
                refine q_up (ρ 0 0) (fun i H locs ls => rW G A (qfMl (qup (qfMw ρ p q 3) 97 q 1) p q i) bd H ∧ va_S A s.heap H locs ∧ lv_has ls 7 [(0, .ref (bd 0 0)), (2, .int (nI p)), (3, .int (nI q)), (6, .int (nI i))]) ?_ ?_ (i0 := 0) (Nat.zero_le _) ⟨(by rw [qfMl_0]; exact hW), hS, lv_sub hl [3, 5, 6, 0] rfl⟩
                · rintro H locs ls ⟨hW, hS, hl⟩
                  refine lv_iload hx hb dX8_merges_112 (lv_at hl 3 rfl) ?_
                  refine lv_aload_n hx hb dX8_merges_114 rfl (lv_at hl 0 rfl) ?_
                  refine q_get (C := RX8) (T := TX8) (N := 36) hx hb hts iRX8 hown hC.1 (hW.to rLV0) rfl 2 (by decide) (hts (.fieldLink RX8 104 "LogWeaveModel" "lines" "I") (List.mem_of_getElem? (i := 5) (by decide +kernel))) rfl (v := .int (nI ((qfMl (qup (qfMw ρ p q 3) 97 q 1) p q (ρ 0 0)) 0 0))) rfl dX8_merges_115 ?_
                  refine q_ti (y := nI (ρ 0 0)) rfl ?_
                  refine q_ge (tgt := 156) hx hb (q31 (hB _ _)) (q31 (hB _ _)) dX8_merges_118 (by decide) (fun g20 => ?_) (fun g20 => (by omega))
                  refine lv_iconst (v := nI 1) hx hb dX8_merges_156 (by decide) ?_
                  exact W.zret (v := nI 1) hx hb hr (rfl) (fun t ht _ => ⟨rfl, by rw [ht]; exact hW, hS.F ht⟩) hS.2.2 dX8_merges_157
                · rintro i H locs ls hi ⟨hW, hS, hl⟩ ih
                  have hY : ∀ r j, (qfMl (qup (qfMw ρ p q 3) 97 q 1) p q i) r j < 1073741824 := qfMl_b hX (by omega) q i
                  refine lv_iload hx hb dX8_merges_112 (lv_at hl 3 rfl) ?_
                  refine lv_aload_n hx hb dX8_merges_114 rfl (lv_at hl 0 rfl) ?_
                  refine q_get (C := RX8) (T := TX8) (N := 36) hx hb hts iRX8 hown hC.1 (hW.to rLV0) rfl 2 (by decide) (hts (.fieldLink RX8 104 "LogWeaveModel" "lines" "I") (List.mem_of_getElem? (i := 5) (by decide +kernel))) rfl (v := .int (nI ((qfMl (qup (qfMw ρ p q 3) 97 q 1) p q i) 0 0))) rfl dX8_merges_115 ?_
                  refine q_ti (y := nI (ρ 0 0)) rfl ?_
                  refine q_ge (tgt := 156) hx hb (by omega) (q31 (hB _ _)) dX8_merges_118 (by decide) (fun g21 => (by omega)) (fun g21 => ?_)
                  refine lv_aload_n hx hb dX8_merges_121 rfl (lv_at hl 0 rfl) ?_
                  refine q_get (C := RX8) (T := TX8) (N := 36) hx hb hts iRX8 hown hC.1 (hW.to rLV0) rfl 9 (by decide) (hts (.fieldLink RX8 29 "LogWeaveModel" "pattern" "[I") (List.mem_of_getElem? (i := 6) (by decide +kernel))) rfl (v := .ref (bd 7 0)) rfl dX8_merges_122 ?_
                  refine lv_iload hx hb dX8_merges_125 (lv_at hl 3 rfl) ?_
                  refine lv_aload_n hx hb dX8_merges_127 rfl (lv_at hl 0 rfl) ?_
                  refine q_get (C := RX8) (T := TX8) (N := 36) hx hb hts iRX8 hown hC.1 (hW.to rLV0) rfl 9 (by decide) (hts (.fieldLink RX8 29 "LogWeaveModel" "pattern" "[I") (List.mem_of_getElem? (i := 6) (by decide +kernel))) rfl (v := .ref (bd 7 0)) rfl dX8_merges_128 ?_
                  refine lv_iload hx hb dX8_merges_131 (lv_at hl 3 rfl) ?_
                  refine r_iald hx hb hC.1 (hW.to rLV7) 1 rfl (i := i) (by omega) (by decide) (v := nI ((qfMl (qup (qfMw ρ p q 3) 97 q 1) p q i) 68 i)) rfl dX8_merges_133 ?_
                  refine lv_iload_n hx hb dX8_merges_134 rfl (lv_at hl 2 rfl) ?_
                  refine q_ne (tgt := 142) hx hb (q31 (hY _ _)) (by omega) dX8_merges_135 (by decide) (fun g22 => ?_) (fun g22 => ?_)
                  · skip
                    refine lv_aload_n hx hb dX8_merges_142 rfl (lv_at hl 0 rfl) ?_
                    refine q_get (C := RX8) (T := TX8) (N := 36) hx hb hts iRX8 hown hC.1 (hW.to rLV0) rfl 9 (by decide) (hts (.fieldLink RX8 29 "LogWeaveModel" "pattern" "[I") (List.mem_of_getElem? (i := 6) (by decide +kernel))) rfl (v := .ref (bd 7 0)) rfl dX8_merges_143 ?_
                    refine lv_iload hx hb dX8_merges_146 (lv_at hl 3 rfl) ?_
                    refine r_iald hx hb hC.1 (hW.to rLV7) 1 rfl (i := i) (by omega) (by decide) (v := nI ((qfMl (qup (qfMw ρ p q 3) 97 q 1) p q i) 68 i)) rfl dX8_merges_148 ?_
                    refine q_iast hx hb hC.1 (hW.to rLV7) (hW.in rLV7) hS 1 rfl (vp_in_nI (n := i) (by omega) (by decide)) dX8_merges_149 (fun H1 locs hat hsz hoq hS => ?_)
                    rw [nI_clamp (n := i) (by omega)] at hat
                    rw [r_upd (qfMl (qup (qfMw ρ p q 3) 97 q 1) p q i) 68 i ((qfMl (qup (qfMw ρ p q 3) 97 q 1) p q i) 68 i)] at hat
                    have hW := hW.upR 68 i ((qfMl (qup (qfMw ρ p q 3) 97 q 1) p q i) 68 i) rfl rLV7 (rLV7 (ρ := (qup (qfMl (qup (qfMw ρ p q 3) 97 q 1) p q i) 68 i ((qfMl (qup (qfMw ρ p q 3) 97 q 1) p q i) 68 i)))) hat hoq
                    refine lv_iinc (v := nI (i + 1)) (lv' := [(6, .int (nI (i + 1))), (0, .ref (bd 0 0)), (2, .int (nI p)), (3, .int (nI q))]) hx hb dX8_merges_150 hl (k := 3) rfl (nI_1 i) (by decide) rfl (fun ls hl => ?_)
                    refine lv_goto (tgt := 112) hx hb dX8_merges_153 (by decide) ?_
                    exact ih _ _ ls ⟨(by rw [qfMl_no (σ := (qup (qfMw ρ p q 3) 97 q 1)) (a := p) (b := q) (i := i) (by rw [qfMl_at (Nat.le_refl _)] at g22; exact g22), ← qup_id (qfMl (qup (qfMw ρ p q 3) 97 q 1) p q i) 68 i]; exact hW), hS, lv_sub hl [1, 2, 3, 0] rfl⟩
                  · skip
                    refine lv_iload_n hx hb dX8_merges_138 rfl (lv_at hl 1 rfl) ?_
                    refine lv_goto (tgt := 149) hx hb dX8_merges_139 (by decide) ?_
                    refine q_iast hx hb hC.1 (hW.to rLV7) (hW.in rLV7) hS 1 rfl (vp_in_nI (n := i) (by omega) (by decide)) dX8_merges_149 (fun H1 locs hat hsz hoq hS => ?_)
                    rw [nI_clamp (n := i) (by omega)] at hat
                    rw [r_upd (qfMl (qup (qfMw ρ p q 3) 97 q 1) p q i) 68 i p] at hat
                    have hW := hW.upR 68 i p rfl rLV7 (rLV7 (ρ := (qup (qfMl (qup (qfMw ρ p q 3) 97 q 1) p q i) 68 i p))) hat hoq
                    refine lv_iinc (v := nI (i + 1)) (lv' := [(6, .int (nI (i + 1))), (0, .ref (bd 0 0)), (2, .int (nI p)), (3, .int (nI q))]) hx hb dX8_merges_150 hl (k := 3) rfl (nI_1 i) (by decide) rfl (fun ls hl => ?_)
                    refine lv_goto (tgt := 112) hx hb dX8_merges_153 (by decide) ?_
                    exact ih _ _ ls ⟨(by rw [qfMl_yes (σ := (qup (qfMw ρ p q 3) 97 q 1)) (a := p) (b := q) (i := i) ((qfMl_at (Nat.le_refl _)).symm.trans g22)]; exact hW), hS, lv_sub hl [1, 2, 3, 0] rfl⟩
