theorem rWF.now {ρ : QSt} (h : rWF ρ) (hn : ρ 1 0 < 5000) : rWF (qfNow ρ) := by
  obtain ⟨h1, h2, h3, h4, h5⟩ := h
  refine ⟨qup_b h1 (by omega) _ _, h2, fun j hj => ?_, h4, h5⟩
  have g := h3 j hj
  exact ⟨Nat.le_succ_of_le g.1, g.2⟩
/-- a hold made shorter -/
def rSh (ρ : QSt) (a : Nat) : QSt := if ρ 131 a = 104 then qup (qup ρ 133 a (ρ 133 a - 1)) 131 a (if ρ 133 a - 1 = 0 then 113 else 104) else ρ
theorem rSh_r {ρ : QSt} {a r j : Nat} (h1 : r ≠ 131) (h2 : r ≠ 133) : rSh ρ a r j = ρ r j := by
  unfold rSh
  split
  · rw [qup_k h1, qup_k h2]
  · rfl
theorem rSh_wf {ρ : QSt} (h : rWF ρ) {a : Nat} (ha : a < ρ 0 2) : rWF (rSh ρ a) := by
  unfold rSh
  split
  · rename_i c
    obtain ⟨h1, h2, h3, h4, h5⟩ := h
    have hb := h1 133 a
    refine ⟨qup_b (qup_b h1 (by omega) _ _) (by split <;> decide) _ _, h2, h3, fun x hx => ?_, h5⟩
    have g := h4 x hx
    show ρ 146 x ≤ 3 ∧ (qup (qup ρ 133 a (ρ 133 a - 1)) 131 a (if ρ 133 a - 1 = 0 then 113 else 104) 131 x ≠ 113 → ρ 135 x < ρ 0 3) ∧ (qup (qup ρ 133 a (ρ 133 a - 1)) 131 a (if ρ 133 a - 1 = 0 then 113 else 104) 131 x = 104 → 1 ≤ qup (qup ρ 133 a (ρ 133 a - 1)) 131 a (if ρ 133 a - 1 = 0 then 113 else 104) 133 x)
    rw [qup_k (by decide : (133 : Nat) ≠ 131)]
    by_cases d : x = a
    · subst d
      rw [qup_s, qup_s]
      refine ⟨g.1, fun _ => g.2.1 (by omega), fun z => ?_⟩
      by_cases q : ρ 133 x - 1 = 0
      · rw [if_pos q] at z; exact absurd z (by decide)
      · omega
    · rw [qup_j d, qup_j d, qup_j d]
      exact g
  · exact h
def rTk (ρ : QSt) : Nat → QSt
  | 0 => qfNow ρ
  | i + 1 => rLk (rSh (rTk ρ i) i) i
theorem rTk_ok {ρ : QSt} (h : rWF ρ) (ht : ρ 1 0 < 5000) (hn : ρ 0 3 + ρ 0 2 ≤ 1300) : ∀ i, i ≤ ρ 0 2 → rWF (rTk ρ i) ∧ (∀ j, j ≠ 3 → rTk ρ i 0 j = ρ 0 j) ∧ rTk ρ i 0 3 ≤ ρ 0 3 + i
  | 0, _ => ⟨h.now ht, fun _ _ => rfl, Nat.le_refl _⟩
  | i + 1, hi => by
    obtain ⟨g1, g2, g3⟩ := rTk_ok h ht hn i (by omega)
    have h2 := g2 2 (by decide)
    have e : ∀ j, rSh (rTk ρ i) i 0 j = rTk ρ i 0 j := fun j => rSh_r (by decide) (by decide)
    refine ⟨rLk_rwf (rSh_wf g1 (by omega)) (by rw [e]; omega) (fun _ _ => by rw [e]; omega), fun j hj => (rLk_0 hj).trans ((e j).trans (g2 j hj)), ?_⟩
    have := rLk_03 (rSh (rTk ρ i) i) i
    rw [e] at this
    show rLk (rSh (rTk ρ i) i) i 0 3 ≤ _
    omega
/-- requests answered, so far -/
def rAnC (ρ : QSt) (j : Nat) : Nat := qsum (fun l => qB (ρ 64 l = ρ 208 j ∧ ρ 69 l = 97 ∧ ρ 209 j ≤ ρ 65 l)) (ρ 0 0)
def rAn (ρ : QSt) (i : Nat) : QSt := fun r j => if r = 195 ∧ j < i ∧ ρ 192 j = ρ 1 0 then rAnC ρ j + 1 else ρ r j
theorem rAnC_le {ρ : QSt} (h : rWF ρ) (j : Nat) : rAnC ρ j ≤ 200 := Nat.le_trans (qsum_bound (b := 1) _ (fun l _ => qB_le)) (by have := h.n; omega)
theorem rAn_0 (ρ : QSt) : rAn ρ 0 = ρ := by
  funext r j; exact if_neg (fun z => by omega)
theorem rAn_r {ρ : QSt} {i r j : Nat} (h : r ≠ 195) : rAn ρ i r j = ρ r j := if_neg (fun z => h z.1)
theorem rAn_yes {ρ : QSt} {i : Nat} (h : ρ 192 i = ρ 1 0) : rAn ρ (i + 1) = qup (rAn ρ i) 195 i (rAnC ρ i + 1) := by
  funext r j
  unfold rAn qup
  by_cases c : r = 195 ∧ j = i
  · rw [if_pos c, if_pos ⟨c.1, by omega, by rw [c.2]; exact h⟩, c.2]
  · rw [if_neg c]
    show _ = (if r = 195 ∧ j < i ∧ ρ 192 j = ρ 1 0 then rAnC ρ j + 1 else ρ r j)
    by_cases d : r = 195 ∧ j < i ∧ ρ 192 j = ρ 1 0
    · rw [if_pos d, if_pos ⟨d.1, by omega, d.2.2⟩]
    · rw [if_neg d, if_neg (fun z => d ⟨z.1, by omega, z.2.2⟩)]
theorem rAn_no {ρ : QSt} {i : Nat} (h : ρ 192 i ≠ ρ 1 0) : rAn ρ (i + 1) = qup (rAn ρ i) 195 i (rAn ρ i 195 i) := by
  rw [qup_id]
  funext r j
  unfold rAn
  by_cases d : r = 195 ∧ j < i ∧ ρ 192 j = ρ 1 0
  · rw [if_pos d, if_pos ⟨d.1, by omega, d.2.2⟩]
  · rw [if_neg d, if_neg (fun z => d ⟨z.1, by
      have := z.2.1
      by_cases q : j = i
      · rw [q] at z; exact absurd z.2.2 h
      · omega, z.2.2⟩)]
theorem rAn_wf {ρ : QSt} (h : rWF ρ) (i : Nat) : rWF (rAn ρ i) := by
  refine h.sub (fun r j => ?_) (fun r j hr => rAn_r (by omega))
  unfold rAn; split
  · have := rAnC_le h j; omega
  · exact h.1 r j
noncomputable def rP1 (ρ : QSt) (N : Nat → Nat) : QSt := rAn (rDa (rTk ρ (ρ 0 2)) N 4) (ρ 0 4)
noncomputable def rPs (ρ : QSt) (N : Nat → Nat → Nat) : Nat → QSt
  | 0 => ρ
  | i + 1 => rP1 (rPs ρ N i) (N i)
/-- what a tick asks -/
def rTick (ρ : QSt) (N : Nat → Nat) : Prop := ρ 0 3 + ρ 0 2 ≤ 1300 ∧ ∀ s0, s0 < 4 → rDrp (rDa (rTk ρ (ρ 0 2)) N s0) s0 (N s0)
theorem rP1_ok {ρ : QSt} (h : rWF ρ) (ht : ρ 1 0 < 5000) {N : Nat → Nat} (hN : rTick ρ N) : rWF (rP1 ρ N) ∧ rP1 ρ N 1 0 = ρ 1 0 + 1 := by
  obtain ⟨g1, g2, g3⟩ := rTk_ok h ht hN.1 (ρ 0 2) (Nat.le_refl _)
  obtain ⟨k1, k2⟩ := rDa_ok g1 N 4
  refine ⟨rAn_wf k1 _, ?_⟩
  unfold rP1
  rw [rAn_r (by decide), k2 1 0 (by decide)]
  have : ∀ i, rTk ρ i 1 0 = ρ 1 0 + 1 := by
    intro i
    induction i with
    | zero => show qup ρ 1 0 (ρ 1 0 + 1) 1 0 = _; exact qup_s _ _ _ _
    | succ i ih =>
      show rLk (rSh (rTk ρ i) i) i 1 0 = _
      unfold rLk
      split
      · unfold rLkA; split
        · rw [qup_k (by decide), qup_k (by decide), rSh_r (by decide) (by decide)]; exact ih
        · rw [rSh_r (by decide) (by decide)]; exact ih
      · rw [rLkS_r (by decide), rLkB_r (by decide) (by decide) (by decide) (by decide) (by decide) (by decide), rSh_r (by decide) (by decide)]; exact ih
  exact this _

set_option maxHeartbeats 4000000 in
set_option maxRecDepth 100000 in
theorem m_rpassOne (l : Launch) (G : QG) (A : Nat → Prop) (ρ bd : QSt) (hF : rWF ρ) (N : Nat → Nat) (ht : ρ 1 0 < 5000) (hN : rTick ρ N) : Met l yX8_passOne wsX8_passOne ({ frames := 4, cells := 0, slots := 0, locals := 92 } : Room) (rR G A ρ bd [.ref (bd 0 0)]) (qWV (some (.int (nI (N 0 + N 1 + N 2 + N 3)))) (rW G A (rP1 ρ N) bd) A) 0 0 A := by
  refine Met.ofW (cc := cX8_passOne) (maxL := 3) (ret := (some .int)) (by decide) rfl ?_
  intro p e s m args below meth c s₁ B hml hv
  obtain ⟨rfl, hC, hW⟩ := hv
  have hx := B.exec
  have hb := B.bytes
  have hr := B.returns
  have hts := atoms_spec (ws := wsX8_passOne) B.pre
  have hown : s.vm.findClass RX8 = some m.cls := findClass_of_methodNamed B.named
  have hlocks := B.notSynchronized
  have hB := hF.1
  have hn := hF.n
  have hS : va_S A s.heap s.heap [] := va_S.rf
  have hl := lv_entry ([.ref (bd 0 0)]) (n := 3) (Nat.le_of_ble_eq_true rfl)
  rw [lg_entry_eq]
  generalize (lg_sl ([.ref (bd 0 0)]) ++ List.replicate (3 - (lg_sl ([.ref (bd 0 0)])).length) Slot.unset).toArray = ls at hl ⊢
  have hl : lv_has ls 3 [(0, .ref (bd 0 0))] := hl
  have iRX8 : ∀ w ∈ wsX80, w ∈ wsX8_passOne := by decide +kernel
  obtain ⟨h13, hNd⟩ := hN
  have hTk := rTk_ok hF ht h13
  refine lv_aload_n hx hb dX8_passOne_0 rfl (lv_at hl 0 rfl) ?_
  refine lv_dup hx hb dX8_passOne_1 rfl ?_
  refine q_get (C := RX8) (T := TX8) (N := 36) hx hb hts iRX8 hown hC.1 (hW.to rLV0) rfl 1 (by decide) (hts (.fieldLink RX8 132 "LogWeaveModel" "tick" "I") (List.mem_of_getElem? (i := 1) (by decide +kernel))) rfl (v := .int (nI (ρ 1 0))) rfl dX8_passOne_2 ?_
  refine lv_iconst (v := nI 1) hx hb dX8_passOne_5 (by decide) ?_
  refine lv_iadd hx hb dX8_passOne_6 ?_
  refine q_ti (nI_add (ρ 1 0) 1) ?_
  refine q_put (C := RX8) (T := TX8) (N := 36) (ty := .int) (v := .int (nI ((ρ 1 0) + 1))) hx hb hts iRX8 tyX8 tyX8_ok nmX8 hown hC.1 (hW.to rLV0) (hW.in rLV0) hS rfl 1 (by decide) (hts (.fieldLink RX8 132 "LogWeaveModel" "tick" "I") (List.mem_of_getElem? (i := 1) (by decide +kernel))) rfl rfl (by decide +kernel) rfl rfl (Nat.le_of_ble_eq_true rfl) dX8_passOne_7 (fun H1 locs hat hsz hoq hS => ?_)
  have hW := hW.upR 1 0 ((ρ 1 0) + 1) rfl rLV0 ((rLV0 (ρ := (qup ρ 1 0 ((ρ 1 0) + 1)))).trans (by rw [qup_s]; rfl)) hat hoq
  have hW : rW G A (rTk ρ 0) bd _ := hW
  refine lv_iconst (v := nI 0) hx hb dX8_passOne_10 (by decide) ?_
  refine lv_istore_n (lv' := [(1, .int (nI 0)), (0, .ref (bd 0 0))]) hx hb dX8_passOne_11 rfl hl (by decide) rfl (fun ls hl => ?_)
  refine q_up (ρ 0 2) (fun i H locs ls => rW G A (rTk ρ i) bd H ∧ va_S A s.heap H locs ∧ lv_has ls 3 [(0, .ref (bd 0 0)), (1, .int (nI i))]) ?_ ?_ (i0 := 0) (Nat.zero_le _) ⟨hW, hS, lv_sub hl [1, 0] rfl⟩
  · rintro H locs ls ⟨hW, hS, hl⟩
    obtain ⟨hFi, hgi, h3i⟩ := hTk (ρ 0 2) (Nat.le_refl _)
    refine lv_iload_n hx hb dX8_passOne_12 rfl (lv_at hl 1 rfl) ?_
    refine lv_aload_n hx hb dX8_passOne_13 rfl (lv_at hl 0 rfl) ?_
    refine q_get (C := RX8) (T := TX8) (N := 36) hx hb hts iRX8 hown hC.1 (hW.to rLV0) rfl 14 (by decide) (hts (.fieldLink RX8 114 "LogWeaveModel" "alerts" "I") (List.mem_of_getElem? (i := 2) (by decide +kernel))) rfl (v := .int (nI ((rTk ρ (ρ 0 2)) 0 2))) rfl dX8_passOne_14 ?_
    refine q_ti (y := nI (ρ 0 2)) (by rw [hgi 2 (by decide)]) ?_
    refine q_ge (tgt := 74) hx hb (q31 (hB _ _)) (q31 (hB _ _)) dX8_passOne_17 (by decide) (fun g1 => ?_) (fun g1 => (by omega))
    refine lv_aload_n hx hb dX8_passOne_74 rfl (lv_at hl 0 rfl) ?_
    refine q_wv (va_runV (As := []) (rest := []) ⟨hx, hb, hml, hown, hts⟩ (m_rdropsAll l G A (rTk ρ (ρ 0 2)) bd hFi N hNd) (cwV 0 hts gX8_passOne_X8_dropsAll rfl rfl rfl (by decide +kernel) ⟨Nat.le_of_ble_eq_true rfl, Nat.le_of_ble_eq_true rfl⟩) ⟨rR.blind, qrecv hC (hW.to rLV0) rfl, rR.pre hC hW⟩ rfl rfl hl.1 rfl (lv_room (Nat.le_of_ble_eq_true rfl)) dX8_passOne_75 ⟨Nat.le_of_ble_eq_true rfl, Nat.le_of_ble_eq_true rfl⟩) hS (fun _ h => h) (fun _ h => h) (fun H1 locs hW hz hk hS => ?_)
    obtain ⟨hFd, hfd⟩ := rDa_ok hFi N 4
    have h04 : (rDa (rTk ρ (ρ 0 2)) N 4) 0 4 = ρ 0 4 := by rw [hfd 0 4 (by decide), hgi 4 (by decide)]
    refine lv_istore_n (lv' := [(1, .int (nI (N 0 + N 1 + N 2 + N 3))), (0, .ref (bd 0 0))]) hx hb dX8_passOne_78 rfl hl (by decide) rfl (fun ls hl => ?_)
    refine lv_iconst (v := nI 0) hx hb dX8_passOne_79 (by decide) ?_
    refine lv_istore_n (lv' := [(2, .int (nI 0)), (1, .int (nI (N 0 + N 1 + N 2 + N 3))), (0, .ref (bd 0 0))]) hx hb dX8_passOne_80 rfl hl (by decide) rfl (fun ls hl => ?_)
    refine q_up (ρ 0 4) (fun q H locs ls => rW G A (rAn (rDa (rTk ρ (ρ 0 2)) N 4) q) bd H ∧ va_S A s.heap H locs ∧ lv_has ls 3 [(0, .ref (bd 0 0)), (1, .int (nI (N 0 + N 1 + N 2 + N 3))), (2, .int (nI q))]) ?_ ?_ (i0 := 0) (Nat.zero_le _) ⟨(by rw [rAn_0]; exact hW), hS, lv_sub hl [2, 1, 0] rfl⟩
    · rintro H locs ls ⟨hW, hS, hl⟩
      refine lv_iload_n hx hb dX8_passOne_81 rfl (lv_at hl 2 rfl) ?_
      refine lv_aload_n hx hb dX8_passOne_82 rfl (lv_at hl 0 rfl) ?_
      refine q_get (C := RX8) (T := TX8) (N := 36) hx hb hts iRX8 hown hC.1 (hW.to rLV0) rfl 31 (by decide) (hts (.fieldLink RX8 181 "LogWeaveModel" "requests" "I") (List.mem_of_getElem? (i := 5) (by decide +kernel))) rfl (v := .int (nI ((rAn (rDa (rTk ρ (ρ 0 2)) N 4) (ρ 0 4)) 0 4))) rfl dX8_passOne_83 ?_
      refine q_ti (y := nI (ρ 0 4)) (by rw [rAn_r (by decide), h04]) ?_
      refine q_ge (tgt := 141) hx hb (q31 (hB _ _)) (q31 (hB _ _)) dX8_passOne_86 (by decide) (fun g2 => ?_) (fun g2 => (by omega))
      refine lv_iload_n hx hb dX8_passOne_141 rfl (lv_at hl 1 rfl) ?_
      exact W.iret hx hb hr (fun t ht _ => ⟨rfl, by rw [ht]; exact hW, hS.F ht⟩) hS.2.2 dX8_passOne_142
    · rintro q H locs ls hi ⟨hW, hS, hl⟩ ih
      have hFq := rAn_wf hFd q
      refine lv_iload_n hx hb dX8_passOne_81 rfl (lv_at hl 2 rfl) ?_
      refine lv_aload_n hx hb dX8_passOne_82 rfl (lv_at hl 0 rfl) ?_
      refine q_get (C := RX8) (T := TX8) (N := 36) hx hb hts iRX8 hown hC.1 (hW.to rLV0) rfl 31 (by decide) (hts (.fieldLink RX8 181 "LogWeaveModel" "requests" "I") (List.mem_of_getElem? (i := 5) (by decide +kernel))) rfl (v := .int (nI ((rAn (rDa (rTk ρ (ρ 0 2)) N 4) q) 0 4))) rfl dX8_passOne_83 ?_
      refine q_ti (y := nI (ρ 0 4)) (by rw [rAn_r (by decide), h04]) ?_
      refine q_ge (tgt := 141) hx hb (by omega) (q31 (hB _ _)) dX8_passOne_86 (by decide) (fun g3 => (by omega)) (fun g3 => ?_)
      refine lv_aload_n hx hb dX8_passOne_89 rfl (lv_at hl 0 rfl) ?_
      refine q_get (C := RX8) (T := TX8) (N := 36) hx hb hts iRX8 hown hC.1 (hW.to rLV0) rfl 35 (by decide) (hts (.fieldLink RX8 97 "LogWeaveModel" "answer" "[I") (List.mem_of_getElem? (i := 6) (by decide +kernel))) rfl (v := .ref (bd 29 0)) rfl dX8_passOne_90 ?_
      refine lv_iload_n hx hb dX8_passOne_93 rfl (lv_at hl 2 rfl) ?_
      refine lv_aload_n hx hb dX8_passOne_94 rfl (lv_at hl 0 rfl) ?_
      refine q_get (C := RX8) (T := TX8) (N := 36) hx hb hts iRX8 hown hC.1 (hW.to rLV0) rfl 34 (by decide) (hts (.fieldLink RX8 94 "LogWeaveModel" "due" "[I") (List.mem_of_getElem? (i := 7) (by decide +kernel))) rfl (v := .ref (bd 28 0)) rfl dX8_passOne_95 ?_
      refine lv_iload_n hx hb dX8_passOne_98 rfl (lv_at hl 2 rfl) ?_
      refine r_iald hx hb hC.1 (hW.to rLV28) 1 rfl (i := q) (by omega) (by decide) (v := nI ((rAn (rDa (rTk ρ (ρ 0 2)) N 4) q) 192 q)) rfl dX8_passOne_99 ?_
      refine lv_aload_n hx hb dX8_passOne_100 rfl (lv_at hl 0 rfl) ?_
      refine q_get (C := RX8) (T := TX8) (N := 36) hx hb hts iRX8 hown hC.1 (hW.to rLV0) rfl 1 (by decide) (hts (.fieldLink RX8 132 "LogWeaveModel" "tick" "I") (List.mem_of_getElem? (i := 1) (by decide +kernel))) rfl (v := .int (nI ((rAn (rDa (rTk ρ (ρ 0 2)) N 4) q) 1 0))) rfl dX8_passOne_101 ?_
      refine q_ne (tgt := 128) hx hb (q31 (hFq.1 _ _)) (q31 (hFq.1 _ _)) dX8_passOne_104 (by decide) (fun g4 => ?_) (fun g4 => ?_)
      · skip
        refine lv_aload_n hx hb dX8_passOne_128 rfl (lv_at hl 0 rfl) ?_
        refine q_get (C := RX8) (T := TX8) (N := 36) hx hb hts iRX8 hown hC.1 (hW.to rLV0) rfl 35 (by decide) (hts (.fieldLink RX8 97 "LogWeaveModel" "answer" "[I") (List.mem_of_getElem? (i := 6) (by decide +kernel))) rfl (v := .ref (bd 29 0)) rfl dX8_passOne_129 ?_
        refine lv_iload_n hx hb dX8_passOne_132 rfl (lv_at hl 2 rfl) ?_
        refine r_iald hx hb hC.1 (hW.to rLV29) 1 rfl (i := q) (by omega) (by decide) (v := nI ((rAn (rDa (rTk ρ (ρ 0 2)) N 4) q) 195 q) - 1) rfl dX8_passOne_133 ?_
        have hd9 : (rDa (rTk ρ (ρ 0 2)) N 4) 192 q ≠ (rDa (rTk ρ (ρ 0 2)) N 4) 1 0 := fun z => g4 (by rw [rAn_r (by decide), rAn_r (by decide)]; exact z)
        refine q_iast hx hb hC.1 (hW.to rLV29) (hW.in rLV29) hS 1 rfl (vp_in_nI (n := q) (by omega) (by decide)) dX8_passOne_134 (fun H1 locs hat hsz hoq hS => ?_)
        rw [nI_clamp (n := q) (by omega)] at hat
        rw [r_updm (rAn (rDa (rTk ρ (ρ 0 2)) N 4) q) 195 q ((rAn (rDa (rTk ρ (ρ 0 2)) N 4) q) 195 q)] at hat
        have hW := hW.upR 195 q ((rAn (rDa (rTk ρ (ρ 0 2)) N 4) q) 195 q) rfl rLV29 (rLV29 (ρ := (qup (rAn (rDa (rTk ρ (ρ 0 2)) N 4) q) 195 q ((rAn (rDa (rTk ρ (ρ 0 2)) N 4) q) 195 q)))) hat hoq
        refine lv_iinc (v := nI (q + 1)) (lv' := [(2, .int (nI (q + 1))), (0, .ref (bd 0 0)), (1, .int (nI (N 0 + N 1 + N 2 + N 3)))]) hx hb dX8_passOne_135 hl (k := 2) rfl (nI_1 q) (by decide) rfl (fun ls hl => ?_)
        refine lv_goto (tgt := 81) hx hb dX8_passOne_138 (by decide) ?_
        exact ih _ _ ls ⟨(by rw [rAn_no hd9]; exact hW), hS, lv_sub hl [1, 2, 0] rfl⟩
      · skip
        have hd9 : (rDa (rTk ρ (ρ 0 2)) N 4) 192 q = (rDa (rTk ρ (ρ 0 2)) N 4) 1 0 := by have := g4; rw [rAn_r (by decide), rAn_r (by decide)] at this; exact this
        refine lv_aload_n hx hb dX8_passOne_107 rfl (lv_at hl 0 rfl) ?_
        refine lv_aload_n hx hb dX8_passOne_108 rfl (lv_at hl 0 rfl) ?_
        refine q_get (C := RX8) (T := TX8) (N := 36) hx hb hts iRX8 hown hC.1 (hW.to rLV0) rfl 32 (by decide) (hts (.fieldLink RX8 88 "LogWeaveModel" "asked" "[I") (List.mem_of_getElem? (i := 8) (by decide +kernel))) rfl (v := .ref (bd 26 0)) rfl dX8_passOne_109 ?_
        refine lv_iload_n hx hb dX8_passOne_112 rfl (lv_at hl 2 rfl) ?_
        refine r_iald hx hb hC.1 (hW.to rLV26) 1 rfl (i := q) (by omega) (by decide) (v := nI ((rAn (rDa (rTk ρ (ρ 0 2)) N 4) q) 208 q)) rfl dX8_passOne_113 ?_
        refine lv_bipush (v := nI 97) hx hb dX8_passOne_114 (by decide) ?_
        refine lv_aload_n hx hb dX8_passOne_116 rfl (lv_at hl 0 rfl) ?_
        refine q_get (C := RX8) (T := TX8) (N := 36) hx hb hts iRX8 hown hC.1 (hW.to rLV0) rfl 33 (by decide) (hts (.fieldLink RX8 91 "LogWeaveModel" "askedRank" "[I") (List.mem_of_getElem? (i := 9) (by decide +kernel))) rfl (v := .ref (bd 27 0)) rfl dX8_passOne_117 ?_
        refine lv_iload_n hx hb dX8_passOne_120 rfl (lv_at hl 2 rfl) ?_
        refine r_iald hx hb hC.1 (hW.to rLV27) 1 rfl (i := q) (by omega) (by decide) (v := nI ((rAn (rDa (rTk ρ (ρ 0 2)) N 4) q) 209 q)) rfl dX8_passOne_121 ?_
        refine q_v (va_runV (As := [.int (nI ((rAn (rDa (rTk ρ (ρ 0 2)) N 4) q) 208 q)), .int (nI 97), .int (nI ((rAn (rDa (rTk ρ (ρ 0 2)) N 4) q) 209 q))]) (rest := [.int (nI q), .ref (bd 29 0)]) ⟨hx, hb, hml, hown, hts⟩ (m_rcount l G A (rAn (rDa (rTk ρ (ρ 0 2)) N 4) q) bd hFq ((rAn (rDa (rTk ρ (ρ 0 2)) N 4) q) 208 q) (hFq.1 _ _) 97 ((rAn (rDa (rTk ρ (ρ 0 2)) N 4) q) 209 q) (by decide) (hFq.1 _ _)) (cwV 3 hts gX8_passOne_X8_count rfl rfl rfl (by decide +kernel) ⟨Nat.le_of_ble_eq_true rfl, Nat.le_of_ble_eq_true rfl⟩) ⟨rR.blind, qrecv hC (hW.to rLV0) rfl, rR.pre hC hW⟩ rfl rfl hl.1 rfl (lv_room (Nat.le_of_ble_eq_true rfl)) dX8_passOne_122 ⟨Nat.le_of_ble_eq_true rfl, Nat.le_of_ble_eq_true rfl⟩) hS (fun _ h => h.elim) (fun locs hS => ?_)
        refine q_ti (y := nI (rAnC (rDa (rTk ρ (ρ 0 2)) N 4) q)) rfl ?_
        refine lv_goto (tgt := 134) hx hb dX8_passOne_125 (by decide) ?_
        refine q_iast hx hb hC.1 (hW.to rLV29) (hW.in rLV29) hS 1 rfl (vp_in_nI (n := q) (by omega) (by decide)) dX8_passOne_134 (fun H1 locs hat hsz hoq hS => ?_)
        rw [nI_clamp (n := q) (by omega)] at hat
        rw [show nI (rAnC (rDa (rTk ρ (ρ 0 2)) N 4) q) = nI (rAnC (rDa (rTk ρ (ρ 0 2)) N 4) q + 1) - 1 from (nI_pred _).symm] at hat
        rw [r_updm (rAn (rDa (rTk ρ (ρ 0 2)) N 4) q) 195 q (rAnC (rDa (rTk ρ (ρ 0 2)) N 4) q + 1)] at hat
        have hW := hW.upR 195 q (rAnC (rDa (rTk ρ (ρ 0 2)) N 4) q + 1) rfl rLV29 (rLV29 (ρ := (qup (rAn (rDa (rTk ρ (ρ 0 2)) N 4) q) 195 q (rAnC (rDa (rTk ρ (ρ 0 2)) N 4) q + 1)))) hat hoq
        refine lv_iinc (v := nI (q + 1)) (lv' := [(2, .int (nI (q + 1))), (0, .ref (bd 0 0)), (1, .int (nI (N 0 + N 1 + N 2 + N 3)))]) hx hb dX8_passOne_135 hl (k := 2) rfl (nI_1 q) (by decide) rfl (fun ls hl => ?_)
        refine lv_goto (tgt := 81) hx hb dX8_passOne_138 (by decide) ?_
        exact ih _ _ ls ⟨(by rw [rAn_yes hd9]; exact hW), hS, lv_sub hl [1, 2, 0] rfl⟩
  · rintro i H locs ls hi ⟨hW, hS, hl⟩ ih
    obtain ⟨hFi, hgi, h3i⟩ := hTk i (Nat.le_of_lt hi)
    have h2i := hgi 2 (by decide)
    have hi9 : i < (rTk ρ i) 0 2 := by omega
    have hal := hFi.al hi9
    refine lv_iload_n hx hb dX8_passOne_12 rfl (lv_at hl 1 rfl) ?_
    refine lv_aload_n hx hb dX8_passOne_13 rfl (lv_at hl 0 rfl) ?_
    refine q_get (C := RX8) (T := TX8) (N := 36) hx hb hts iRX8 hown hC.1 (hW.to rLV0) rfl 14 (by decide) (hts (.fieldLink RX8 114 "LogWeaveModel" "alerts" "I") (List.mem_of_getElem? (i := 2) (by decide +kernel))) rfl (v := .int (nI ((rTk ρ i) 0 2))) rfl dX8_passOne_14 ?_
    refine q_ti (y := nI (ρ 0 2)) (by rw [hgi 2 (by decide)]) ?_
    refine q_ge (tgt := 74) hx hb (by omega) (q31 (hB _ _)) dX8_passOne_17 (by decide) (fun g5 => (by omega)) (fun g5 => ?_)
    refine lv_aload_n hx hb dX8_passOne_20 rfl (lv_at hl 0 rfl) ?_
    refine q_get (C := RX8) (T := TX8) (N := 36) hx hb hts iRX8 hown hC.1 (hW.to rLV0) rfl 22 (by decide) (hts (.fieldLink RX8 63 "LogWeaveModel" "alert" "[C") (List.mem_of_getElem? (i := 3) (by decide +kernel))) rfl (v := .ref (bd 18 0)) rfl dX8_passOne_21 ?_
    refine lv_iload_n hx hb dX8_passOne_24 rfl (lv_at hl 1 rfl) ?_
    refine r_cald hx hb hC.1 (hW.to rLV18) 3 rfl (i := i) (by omega) (by decide) (v := nI ((rTk ρ i) 131 i)) rfl dX8_passOne_25 ?_
    refine lv_bipush (v := nI 104) hx hb dX8_passOne_26 (by decide) ?_
    refine q_ne (tgt := 63) hx hb (q31 (hFi.1 _ _)) (by decide) dX8_passOne_28 (by decide) (fun g6 => ?_) (fun g6 => ?_)
    · skip
      have hW : rW G A (rSh (rTk ρ i) i) bd _ := (by rw [rSh, if_neg g6]; exact hW)
      have hFs := rSh_wf hFi hi9
      have e9 : ∀ j, rSh (rTk ρ i) i 0 j = (rTk ρ i) 0 j := fun j => rSh_r (by decide) (by decide)
      refine lv_aload_n hx hb dX8_passOne_63 rfl (lv_at hl 0 rfl) ?_
      refine lv_iload_n hx hb dX8_passOne_64 rfl (lv_at hl 1 rfl) ?_
      refine q_wn (va_runV (As := [.int (nI i)]) (rest := []) ⟨hx, hb, hml, hown, hts⟩ (m_rlook l G A (rSh (rTk ρ i) i) bd hFs i (by rw [e9]; exact hi9) (fun _ _ => by rw [e9]; omega)) (cwV 1 hts gX8_passOne_X8_look rfl rfl rfl (by decide +kernel) ⟨Nat.le_of_ble_eq_true rfl, Nat.le_of_ble_eq_true rfl⟩) ⟨rR.blind, qrecv hC (hW.to rLV0) rfl, rR.pre hC hW⟩ rfl rfl hl.1 rfl (lv_room (Nat.le_of_ble_eq_true rfl)) dX8_passOne_65 ⟨Nat.le_of_ble_eq_true rfl, Nat.le_of_ble_eq_true rfl⟩) hS (fun _ h => h) (fun _ h => h) (fun H1 locs hW hz hk hS => ?_)
      refine lv_iinc (v := nI (i + 1)) (lv' := [(1, .int (nI (i + 1))), (0, .ref (bd 0 0))]) hx hb dX8_passOne_68 hl (k := 1) rfl (nI_1 i) (by decide) rfl (fun ls hl => ?_)
      refine lv_goto (tgt := 12) hx hb dX8_passOne_71 (by decide) ?_
      exact ih _ _ ls ⟨hW, hS, lv_sub hl [1, 0] rfl⟩
    · skip
      have hl9 := hal.2.2 g6
      refine lv_aload_n hx hb dX8_passOne_31 rfl (lv_at hl 0 rfl) ?_
      refine q_get (C := RX8) (T := TX8) (N := 36) hx hb hts iRX8 hown hC.1 (hW.to rLV0) rfl 23 (by decide) (hts (.fieldLink RX8 66 "LogWeaveModel" "left" "[I") (List.mem_of_getElem? (i := 4) (by decide +kernel))) rfl (v := .ref (bd 19 0)) rfl dX8_passOne_32 ?_
      refine lv_iload_n hx hb dX8_passOne_35 rfl (lv_at hl 1 rfl) ?_
      refine lv_dup2_11 hx hb dX8_passOne_36 rfl rfl ?_
      refine r_iald hx hb hC.1 (hW.to rLV19) 1 rfl (i := i) (by omega) (by decide) (v := nI ((rTk ρ i) 133 i)) rfl dX8_passOne_37 ?_
      refine lv_iconst (v := nI 1) hx hb dX8_passOne_38 (by decide) ?_
      refine lv_isub hx hb dX8_passOne_39 ?_
      refine q_ti (r_sub (a := ((rTk ρ i) 133 i)) (b := 1) (by omega)) ?_
      refine q_iast hx hb hC.1 (hW.to rLV19) (hW.in rLV19) hS 1 rfl (vp_in_nI (n := i) (by omega) (by decide)) dX8_passOne_40 (fun H1 locs hat hsz hoq hS => ?_)
      rw [nI_clamp (n := i) (by omega)] at hat
      rw [r_upd (rTk ρ i) 133 i ((rTk ρ i) 133 i - 1)] at hat
      have hW := hW.upR 133 i ((rTk ρ i) 133 i - 1) rfl rLV19 (rLV19 (ρ := (qup (rTk ρ i) 133 i ((rTk ρ i) 133 i - 1)))) hat hoq
      refine lv_aload_n hx hb dX8_passOne_41 rfl (lv_at hl 0 rfl) ?_
      refine q_get (C := RX8) (T := TX8) (N := 36) hx hb hts iRX8 hown hC.1 (hW.to rLV0) rfl 22 (by decide) (hts (.fieldLink RX8 63 "LogWeaveModel" "alert" "[C") (List.mem_of_getElem? (i := 3) (by decide +kernel))) rfl (v := .ref (bd 18 0)) rfl dX8_passOne_42 ?_
      refine lv_iload_n hx hb dX8_passOne_45 rfl (lv_at hl 1 rfl) ?_
      refine lv_aload_n hx hb dX8_passOne_46 rfl (lv_at hl 0 rfl) ?_
      refine q_get (C := RX8) (T := TX8) (N := 36) hx hb hts iRX8 hown hC.1 (hW.to rLV0) rfl 23 (by decide) (hts (.fieldLink RX8 66 "LogWeaveModel" "left" "[I") (List.mem_of_getElem? (i := 4) (by decide +kernel))) rfl (v := .ref (bd 19 0)) rfl dX8_passOne_47 ?_
      refine lv_iload_n hx hb dX8_passOne_50 rfl (lv_at hl 1 rfl) ?_
      refine r_iald hx hb hC.1 (hW.to rLV19) 1 rfl (i := i) (by omega) (by decide) (v := nI ((qup (rTk ρ i) 133 i ((rTk ρ i) 133 i - 1)) 133 i)) rfl dX8_passOne_51 ?_
      refine q_ti (y := nI ((rTk ρ i) 133 i - 1)) (by rw [qup_s]) ?_
      refine q_ne0 (tgt := 60) hx hb (by have := hFi.1 133 i; omega) dX8_passOne_52 (by decide) (fun g7 => ?_) (fun g7 => ?_)
      · skip
        refine lv_bipush (v := nI 104) hx hb dX8_passOne_60 (by decide) ?_
        refine q_cast hx hb hC.1 (hW.to rLV18) (hW.in rLV18) hS 3 rfl (vp_in_nI (n := i) (by omega) (by decide)) dX8_passOne_62 (fun H1 locs hat hsz hoq hS => ?_)
        rw [nI_clamp (n := i) (by omega)] at hat
        rw [show vp_nar .char (nI 104) = nI 104 from by decide] at hat
        rw [r_upd (qup (rTk ρ i) 133 i ((rTk ρ i) 133 i - 1)) 131 i 104] at hat
        have hW := hW.upR 131 i 104 rfl rLV18 (rLV18 (ρ := (qup (qup (rTk ρ i) 133 i ((rTk ρ i) 133 i - 1)) 131 i 104))) hat hoq
        have hW : rW G A (rSh (rTk ρ i) i) bd _ := (by rw [rSh, if_pos g6, if_neg g7]; exact hW)
        have hFs := rSh_wf hFi hi9
        have e9 : ∀ j, rSh (rTk ρ i) i 0 j = (rTk ρ i) 0 j := fun j => rSh_r (by decide) (by decide)
        refine lv_aload_n hx hb dX8_passOne_63 rfl (lv_at hl 0 rfl) ?_
        refine lv_iload_n hx hb dX8_passOne_64 rfl (lv_at hl 1 rfl) ?_
        refine q_wn (va_runV (As := [.int (nI i)]) (rest := []) ⟨hx, hb, hml, hown, hts⟩ (m_rlook l G A (rSh (rTk ρ i) i) bd hFs i (by rw [e9]; exact hi9) (fun _ _ => by rw [e9]; omega)) (cwV 1 hts gX8_passOne_X8_look rfl rfl rfl (by decide +kernel) ⟨Nat.le_of_ble_eq_true rfl, Nat.le_of_ble_eq_true rfl⟩) ⟨rR.blind, qrecv hC (hW.to rLV0) rfl, rR.pre hC hW⟩ rfl rfl hl.1 rfl (lv_room (Nat.le_of_ble_eq_true rfl)) dX8_passOne_65 ⟨Nat.le_of_ble_eq_true rfl, Nat.le_of_ble_eq_true rfl⟩) hS (fun _ h => h) (fun _ h => h) (fun H1 locs hW hz hk hS => ?_)
        refine lv_iinc (v := nI (i + 1)) (lv' := [(1, .int (nI (i + 1))), (0, .ref (bd 0 0))]) hx hb dX8_passOne_68 hl (k := 1) rfl (nI_1 i) (by decide) rfl (fun ls hl => ?_)
        refine lv_goto (tgt := 12) hx hb dX8_passOne_71 (by decide) ?_
        exact ih _ _ ls ⟨hW, hS, lv_sub hl [1, 0] rfl⟩
      · skip
        refine lv_bipush (v := nI 113) hx hb dX8_passOne_55 (by decide) ?_
        refine lv_goto (tgt := 62) hx hb dX8_passOne_57 (by decide) ?_
        refine q_cast hx hb hC.1 (hW.to rLV18) (hW.in rLV18) hS 3 rfl (vp_in_nI (n := i) (by omega) (by decide)) dX8_passOne_62 (fun H1 locs hat hsz hoq hS => ?_)
        rw [nI_clamp (n := i) (by omega)] at hat
        rw [show vp_nar .char (nI 113) = nI 113 from by decide] at hat
        rw [r_upd (qup (rTk ρ i) 133 i ((rTk ρ i) 133 i - 1)) 131 i 113] at hat
        have hW := hW.upR 131 i 113 rfl rLV18 (rLV18 (ρ := (qup (qup (rTk ρ i) 133 i ((rTk ρ i) 133 i - 1)) 131 i 113))) hat hoq
        have hW : rW G A (rSh (rTk ρ i) i) bd _ := (by rw [rSh, if_pos g6, if_pos g7]; exact hW)
        have hFs := rSh_wf hFi hi9
        have e9 : ∀ j, rSh (rTk ρ i) i 0 j = (rTk ρ i) 0 j := fun j => rSh_r (by decide) (by decide)
        refine lv_aload_n hx hb dX8_passOne_63 rfl (lv_at hl 0 rfl) ?_
        refine lv_iload_n hx hb dX8_passOne_64 rfl (lv_at hl 1 rfl) ?_
        refine q_wn (va_runV (As := [.int (nI i)]) (rest := []) ⟨hx, hb, hml, hown, hts⟩ (m_rlook l G A (rSh (rTk ρ i) i) bd hFs i (by rw [e9]; exact hi9) (fun _ _ => by rw [e9]; omega)) (cwV 1 hts gX8_passOne_X8_look rfl rfl rfl (by decide +kernel) ⟨Nat.le_of_ble_eq_true rfl, Nat.le_of_ble_eq_true rfl⟩) ⟨rR.blind, qrecv hC (hW.to rLV0) rfl, rR.pre hC hW⟩ rfl rfl hl.1 rfl (lv_room (Nat.le_of_ble_eq_true rfl)) dX8_passOne_65 ⟨Nat.le_of_ble_eq_true rfl, Nat.le_of_ble_eq_true rfl⟩) hS (fun _ h => h) (fun _ h => h) (fun H1 locs hW hz hk hS => ?_)
        refine lv_iinc (v := nI (i + 1)) (lv' := [(1, .int (nI (i + 1))), (0, .ref (bd 0 0))]) hx hb dX8_passOne_68 hl (k := 1) rfl (nI_1 i) (by decide) rfl (fun ls hl => ?_)
        refine lv_goto (tgt := 12) hx hb dX8_passOne_71 (by decide) ?_
        exact ih _ _ ls ⟨hW, hS, lv_sub hl [1, 0] rfl⟩
set_option maxHeartbeats 4000000 in
set_option maxRecDepth 100000 in
theorem m_rpass (l : Launch) (G : QG) (A : Nat → Prop) (ρ bd : QSt) (hF : rWF (rT ρ)) (n0 : Nat) (N : Nat → Nat → Nat) (hn0 : 1 ≤ n0 ∧ n0 ≤ 50) (h5 : (rT ρ) 1 0 + n0 ≤ 5000) (hT : ∀ i, i < n0 → rTick (rPs (rT ρ) N i) (N i)) : Met l yX8_pass wsX8_pass ({ frames := 5, cells := 0, slots := 0, locals := 114 } : Room) (rR G A ρ bd [.ref (bd 0 0), .int (nI n0)]) (qWV (some (.int (nI (qsum (fun i => N i 0 + N i 1 + N i 2 + N i 3) n0)))) (rW G A (rPs (rT ρ) N n0) bd) A) 0 0 A := by
  refine Met.ofW (cc := cX8_pass) (maxL := 4) (ret := (some .int)) (by decide) rfl ?_
  intro p e s m args below meth c s₁ B hml hv
  obtain ⟨rfl, hC, hW⟩ := hv
  have hx := B.exec
  have hb := B.bytes
  have hr := B.returns
  have hts := atoms_spec (ws := wsX8_pass) B.pre
  have hown : s.vm.findClass RX8 = some m.cls := findClass_of_methodNamed B.named
  have hlocks := B.notSynchronized
  have hB := hF.1
  have hn := hF.n
  have hS : va_S A s.heap s.heap [] := va_S.rf
  have hl := lv_entry ([.ref (bd 0 0), .int (nI n0)]) (n := 4) (Nat.le_of_ble_eq_true rfl)
  rw [lg_entry_eq]
  generalize (lg_sl ([.ref (bd 0 0), .int (nI n0)]) ++ List.replicate (4 - (lg_sl ([.ref (bd 0 0), .int (nI n0)])).length) Slot.unset).toArray = ls at hl ⊢
  have hl : lv_has ls 4 [(0, .ref (bd 0 0)), (1, .int (nI n0))] := hl
  have iRX8 : ∀ w ∈ wsX80, w ∈ wsX8_pass := by decide +kernel
  refine lv_aload_n hx hb dX8_pass_0 rfl (lv_at hl 0 rfl) ?_
  refine lv_iconst (v := nI 0) hx hb dX8_pass_1 (by decide) ?_
  refine q_put (C := RX8) (T := TX8) (N := 36) (ty := .int) (v := .int (nI 0)) hx hb hts iRX8 tyX8 tyX8_ok nmX8 hown hC.1 (hW.to rLV0) (hW.in rLV0) hS rfl 0 (by decide) (hts (.fieldLink RX8 100 "LogWeaveModel" "thrown" "I") (List.mem_of_getElem? (i := 1) (by decide +kernel))) rfl rfl (by decide +kernel) rfl rfl (Nat.le_of_ble_eq_true rfl) dX8_pass_2 (fun H1 locs hat hsz hoq hS => ?_)
  have hW := hW.upR 2 0 0 rfl rLV0 ((rLV0 (ρ := (qup ρ 2 0 0))).trans (by rw [qup_s]; rfl)) hat hoq
  have hW : rW G A (rT ρ) bd _ := hW
  have hok : ∀ i, i ≤ n0 → rWF (rPs (rT ρ) N i) ∧ rPs (rT ρ) N i 1 0 = (rT ρ) 1 0 + i := by
    intro i
    induction i with
    | zero => exact fun _ => ⟨hF, rfl⟩
    | succ i ih =>
      intro hi
      obtain ⟨g1, g2⟩ := ih (by omega)
      have := rP1_ok g1 (by omega) (hT i (by omega))
      exact ⟨this.1, by show rP1 (rPs (rT ρ) N i) (N i) 1 0 = _; rw [this.2, g2]; omega⟩
  have hB1 := hB 1 0
  refine lv_aload_n hx hb dX8_pass_5 rfl (lv_at hl 0 rfl) ?_
  refine lv_iload_n hx hb dX8_pass_6 rfl (lv_at hl 1 rfl) ?_
  refine lv_iconst (v := nI 1) hx hb dX8_pass_7 (by decide) ?_
  refine lv_bipush (v := nI 50) hx hb dX8_pass_8 (by decide) ?_
  refine q_v (va_runS (As := [.int (nI n0), .int (nI 1), .int (nI 50)]) (rest := [.ref (bd 0 0)]) ⟨hx, hb, hml, hown, hts⟩ (m_rin l (nI n0) (nI 1) (nI 50)) (va_cwS 3 hts gX8_pass_X8_in rfl rfl rfl (by decide +kernel) ⟨Nat.le_of_ble_eq_true rfl, Nat.le_of_ble_eq_true rfl⟩) ⟨qU.blind, qU.pre⟩ rfl rfl hl.1 rfl (lv_room (Nat.le_of_ble_eq_true rfl)) dX8_pass_10 ⟨Nat.le_of_ble_eq_true rfl, Nat.le_of_ble_eq_true rfl⟩) hS (fun _ h => h.elim) (fun locs hS => ?_)
  refine q_ti (y := nI 1) (by rw [qB_t ⟨nI_le (by omega) (by omega), nI_le (by omega) (by decide)⟩]) ?_
  refine q_ne0 (tgt := 20) hx hb (by decide) dX8_pass_13 (by decide) (fun g1 => ?_) (fun g1 => (by omega))
  refine lv_iconst (v := nI 0) hx hb dX8_pass_20 (by decide) ?_
  refine lv_iconst (v := nI 1) hx hb dX8_pass_21 (by decide) ?_
  refine q_v (va_runV (As := [.int (nI 0), .int (nI 1)]) (rest := []) ⟨hx, hb, hml, hown, hts⟩ (m_rfails0 l G A (rT ρ) bd hF 1 (rT_0 ρ)) (cwV 2 hts gX8_pass_X8_fails rfl rfl rfl (by decide +kernel) ⟨Nat.le_of_ble_eq_true rfl, Nat.le_of_ble_eq_true rfl⟩) ⟨rR.blind, qrecv hC (hW.to rLV0) rfl, rR.pre hC hW⟩ rfl rfl hl.1 rfl (lv_room (Nat.le_of_ble_eq_true rfl)) dX8_pass_22 ⟨Nat.le_of_ble_eq_true rfl, Nat.le_of_ble_eq_true rfl⟩) hS (fun _ h => h.elim) (fun locs hS => ?_)
  refine q_ne0 (tgt := 53) hx hb (by decide) dX8_pass_25 (by decide) (fun g2 => (by omega)) (fun g2 => ?_)
  refine lv_aload_n hx hb dX8_pass_28 rfl (lv_at hl 0 rfl) ?_
  refine lv_aload_n hx hb dX8_pass_29 rfl (lv_at hl 0 rfl) ?_
  refine q_get (C := RX8) (T := TX8) (N := 36) hx hb hts iRX8 hown hC.1 (hW.to rLV0) rfl 1 (by decide) (hts (.fieldLink RX8 132 "LogWeaveModel" "tick" "I") (List.mem_of_getElem? (i := 2) (by decide +kernel))) rfl (v := .int (nI ((rT ρ) 1 0))) rfl dX8_pass_30 ?_
  refine lv_iload_n hx hb dX8_pass_33 rfl (lv_at hl 1 rfl) ?_
  refine lv_iadd hx hb dX8_pass_34 ?_
  refine q_ti (nI_add ((rT ρ) 1 0) n0) ?_
  refine lv_sipush (v := nI 5000) hx hb dX8_pass_35 (by decide) ?_
  refine q_le (tgt := 45) hx hb (by omega) (by decide) dX8_pass_38 (by decide) (fun g3 => ?_) (fun g3 => ?_)
  · skip
    refine lv_iconst (v := nI 0) hx hb dX8_pass_45 (by decide) ?_
    refine lv_iconst (v := nI 2) hx hb dX8_pass_46 (by decide) ?_
    refine q_v (va_runV (As := [.int (nI 0), .int (nI 2)]) (rest := []) ⟨hx, hb, hml, hown, hts⟩ (m_rfails0 l G A (rT ρ) bd hF 2 (rT_0 ρ)) (cwV 2 hts gX8_pass_X8_fails rfl rfl rfl (by decide +kernel) ⟨Nat.le_of_ble_eq_true rfl, Nat.le_of_ble_eq_true rfl⟩) ⟨rR.blind, qrecv hC (hW.to rLV0) rfl, rR.pre hC hW⟩ rfl rfl hl.1 rfl (lv_room (Nat.le_of_ble_eq_true rfl)) dX8_pass_47 ⟨Nat.le_of_ble_eq_true rfl, Nat.le_of_ble_eq_true rfl⟩) hS (fun _ h => h.elim) (fun locs hS => ?_)
    refine q_eq0 (tgt := 55) hx hb (by decide) dX8_pass_50 (by decide) (fun g4 => ?_) (fun g4 => (by omega))
    refine lv_iconst (v := nI 0) hx hb dX8_pass_55 (by decide) ?_
    refine lv_istore_n (lv' := [(2, .int (nI 0)), (0, .ref (bd 0 0)), (1, .int (nI n0))]) hx hb dX8_pass_56 rfl hl (by decide) rfl (fun ls hl => ?_)
    refine lv_iconst (v := nI 0) hx hb dX8_pass_57 (by decide) ?_
    refine lv_istore_n (lv' := [(3, .int (nI 0)), (2, .int (nI 0)), (0, .ref (bd 0 0)), (1, .int (nI n0))]) hx hb dX8_pass_58 rfl hl (by decide) rfl (fun ls hl => ?_)
    refine q_up n0 (fun i H locs ls => rW G A (rPs (rT ρ) N i) bd H ∧ va_S A s.heap H locs ∧ lv_has ls 4 [(0, .ref (bd 0 0)), (1, .int (nI n0)), (2, .int (nI (qsum (fun i => N i 0 + N i 1 + N i 2 + N i 3) i))), (3, .int (nI i))]) ?_ ?_ (i0 := 0) (Nat.zero_le _) ⟨hW, hS, lv_sub hl [2, 3, 1, 0] rfl⟩
    · rintro H locs ls ⟨hW, hS, hl⟩
      refine lv_iload_n hx hb dX8_pass_59 rfl (lv_at hl 3 rfl) ?_
      refine lv_iload_n hx hb dX8_pass_60 rfl (lv_at hl 1 rfl) ?_
      refine q_ge (tgt := 77) hx hb (by omega) (by omega) dX8_pass_61 (by decide) (fun g5 => ?_) (fun g5 => (by omega))
      refine lv_iload_n hx hb dX8_pass_77 rfl (lv_at hl 2 rfl) ?_
      exact W.iret hx hb hr (fun t ht _ => ⟨rfl, by rw [ht]; exact hW, hS.F ht⟩) hS.2.2 dX8_pass_78
    · rintro i H locs ls hi ⟨hW, hS, hl⟩ ih
      obtain ⟨hFi, hti⟩ := hok i (Nat.le_of_lt hi)
      refine lv_iload_n hx hb dX8_pass_59 rfl (lv_at hl 3 rfl) ?_
      refine lv_iload_n hx hb dX8_pass_60 rfl (lv_at hl 1 rfl) ?_
      refine q_ge (tgt := 77) hx hb (by omega) (by omega) dX8_pass_61 (by decide) (fun g6 => (by omega)) (fun g6 => ?_)
      refine lv_iload_n hx hb dX8_pass_64 rfl (lv_at hl 2 rfl) ?_
      refine lv_aload_n hx hb dX8_pass_65 rfl (lv_at hl 0 rfl) ?_
      refine q_wv (va_runV (As := []) (rest := [.int (nI (qsum (fun i => N i 0 + N i 1 + N i 2 + N i 3) i))]) ⟨hx, hb, hml, hown, hts⟩ (m_rpassOne l G A (rPs (rT ρ) N i) bd hFi (N i) (by omega) (hT i hi)) (cwV 0 hts gX8_pass_X8_passOne rfl rfl rfl (by decide +kernel) ⟨Nat.le_of_ble_eq_true rfl, Nat.le_of_ble_eq_true rfl⟩) ⟨rR.blind, qrecv hC (hW.to rLV0) rfl, rR.pre hC hW⟩ rfl rfl hl.1 rfl (lv_room (Nat.le_of_ble_eq_true rfl)) dX8_pass_66 ⟨Nat.le_of_ble_eq_true rfl, Nat.le_of_ble_eq_true rfl⟩) hS (fun _ h => h) (fun _ h => h) (fun H1 locs hW hz hk hS => ?_)
      refine lv_iadd hx hb dX8_pass_69 ?_
      refine q_ti (nI_add (qsum (fun i => N i 0 + N i 1 + N i 2 + N i 3) i) (N i 0 + N i 1 + N i 2 + N i 3)) ?_
      refine lv_istore_n (lv' := [(2, .int (nI ((qsum (fun i => N i 0 + N i 1 + N i 2 + N i 3) i) + (N i 0 + N i 1 + N i 2 + N i 3)))), (0, .ref (bd 0 0)), (1, .int (nI n0)), (3, .int (nI i))]) hx hb dX8_pass_70 rfl hl (by decide) rfl (fun ls hl => ?_)
      refine lv_iinc (v := nI (i + 1)) (lv' := [(3, .int (nI (i + 1))), (2, .int (nI ((qsum (fun i => N i 0 + N i 1 + N i 2 + N i 3) i) + (N i 0 + N i 1 + N i 2 + N i 3)))), (0, .ref (bd 0 0)), (1, .int (nI n0))]) hx hb dX8_pass_71 hl (k := 3) rfl (nI_1 i) (by decide) rfl (fun ls hl => ?_)
      refine lv_goto (tgt := 59) hx hb dX8_pass_74 (by decide) ?_
      exact ih _ _ ls ⟨hW, hS, lv_sub hl [2, 3, 1, 0] rfl⟩
  · skip
    refine lv_iconst (v := nI 1) hx hb dX8_pass_41 (by decide) ?_
    refine lv_goto (tgt := 46) hx hb dX8_pass_42 (by decide) ?_
    refine lv_iconst (v := nI 2) hx hb dX8_pass_46 (by decide) ?_
    omega
