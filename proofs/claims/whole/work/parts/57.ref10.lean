theorem rWF.cnt {ρ : QSt} (h : rWF ρ) {J v : Nat} (hJ : J = 4) (hv : v ≤ 20) : rWF (qup ρ 0 J v) := by
  subst hJ
  obtain ⟨h1, h2, h3, h4, h5⟩ := h
  exact ⟨qup_b h1 (by omega) _ _, ⟨h2.1, h2.2.1, h2.2.2.1, h2.2.2.2.1, hv⟩, h3, h4, h5⟩
/-- a request made -/
def rRq (ρ : QSt) (s0 r0 : Nat) : QSt := qup (qup (qup (qup (qup ρ 208 (ρ 0 4) s0) 209 (ρ 0 4) r0) 192 (ρ 0 4) (ρ 1 0 + 2 + qsum (fun l => qB (ρ 64 l = s0 ∧ ρ 69 l = 97 ∧ 0 ≤ ρ 65 l)) (ρ 0 0) / 3)) 195 (ρ 0 4) 0) 0 4 (ρ 0 4 + 1)
/-- an alert added, not yet looked at -/
def rAl (ρ : QSt) (s0 r0 P w0 g0 n0 h0 : Nat) : QSt := qup (qup (qup (qup (qup (qup (qup (qup (qup ρ 144 (ρ 0 2) s0) 145 (ρ 0 2) r0) 146 (ρ 0 2) P) 147 (ρ 0 2) w0) 128 (ρ 0 2) g0) 129 (ρ 0 2) n0) 130 (ρ 0 2) h0) 131 (ρ 0 2) 113) 0 2 (ρ 0 2 + 1)
theorem rAl_wf {ρ : QSt} (h : rWF ρ) {s0 r0 P w0 g0 n0 h0 : Nat} (hs0 : s0 < 4) (hr0 : r0 < 5) (hP : P ≤ 3) (hw0 : w0 < 100) (hg0 : 1 ≤ g0 ∧ g0 ≤ 9) (hn0 : 1 ≤ n0 ∧ n0 ≤ 50) (hh0 : h0 ≤ 20) (hn2 : ρ 0 2 < 6) : rWF (rAl ρ s0 r0 P w0 g0 n0 h0) := by
  obtain ⟨h1, h2, h3, h4, h5⟩ := h
  refine ⟨?_, ⟨h2.1, h2.2.1, by show ρ 0 2 + 1 ≤ 6; omega, h2.2.2.2.1, h2.2.2.2.2⟩, h3, fun a ha => ?_, fun f hf => ?_⟩
  · unfold rAl
    exact qup_b (qup_b (qup_b (qup_b (qup_b (qup_b (qup_b (qup_b (qup_b h1 (by omega) _ _) (by omega) _ _) (by omega) _ _) (by omega) _ _) (by omega) _ _) (by omega) _ _) (by omega) _ _) (by decide) _ _) (by omega) _ _
  · have ha2 : a < ρ 0 2 + 1 := ha
    show (qup ρ 146 (ρ 0 2) P 146 a ≤ 3 ∧ (qup ρ 131 (ρ 0 2) 113 131 a ≠ 113 → ρ 135 a < ρ 0 3) ∧ (qup ρ 131 (ρ 0 2) 113 131 a = 104 → 1 ≤ ρ 133 a))
    by_cases c : a = ρ 0 2
    · rw [c, qup_s, qup_s]; exact ⟨hP, fun z => absurd rfl z, fun z => absurd z (by decide)⟩
    · rw [qup_j c, qup_j c]; exact h4 a (by omega)
  · have := h5 f hf
    show ρ 160 f < ρ 0 2 + 1
    omega
/-- a line put down, not yet read -/
def rLi (ρ : QSt) (s0 r0 x1 x2 x3 b0 : Nat) : QSt := qup (qup (qup (qup (qup (qup (qup (qup (qup ρ 64 (ρ 0 0) s0) 65 (ρ 0 0) r0) 80 (ρ 0 0) x1) 81 (ρ 0 0) x2) 82 (ρ 0 0) x3) 66 (ρ 0 0) b0) 67 (ρ 0 0) (ρ 1 0)) 69 (ρ 0 0) 107) 0 0 (ρ 0 0 + 1)
theorem rLi_wf {ρ : QSt} (h : rWF ρ) {s0 r0 x1 x2 x3 b0 : Nat} (hs0 : s0 < 4) (hr0 : r0 < 5) (hx1 : x1 < 100) (hx2 : x2 < 100) (hx3 : x3 < 100) (hb0 : 1 ≤ b0 ∧ b0 ≤ 99) (hn0 : ρ 0 0 < 200) : rWF (rLi ρ s0 r0 x1 x2 x3 b0) := by
  obtain ⟨h1, h2, h3, h4, h5⟩ := h
  refine ⟨?_, ⟨by show ρ 0 0 + 1 ≤ 200; omega, h2.2⟩, fun j hj => ?_, h4, h5⟩
  · unfold rLi
    exact qup_b (qup_b (qup_b (qup_b (qup_b (qup_b (qup_b (qup_b (qup_b h1 (by omega) _ _) (by omega) _ _) (by omega) _ _) (by omega) _ _) (by omega) _ _) (by omega) _ _) (h1 _ _) _ _) (by decide) _ _) (by omega) _ _
  · have hj2 : j < ρ 0 0 + 1 := hj
    show qup ρ 67 (ρ 0 0) (ρ 1 0) 67 j ≤ ρ 1 0 ∧ qup ρ 66 (ρ 0 0) b0 66 j ≤ 99
    by_cases c : j = ρ 0 0
    · rw [c, qup_s, qup_s]; exact ⟨Nat.le_refl _, hb0.2⟩
    · rw [qup_j c, qup_j c]; exact h3 j (by omega)
/-- looks at alerts, one behind the other -/
def rLs (ρ : QSt) : Nat → QSt
  | 0 => ρ
  | i + 1 => rLk (rLs ρ i) i
theorem rLk_0 {ρ : QSt} {a j : Nat} (h : j ≠ 3) : rLk ρ a 0 j = ρ 0 j := by
  unfold rLk
  split
  · unfold rLkA; split <;> rfl
  · rw [rLkS_r (by decide), rLkB_0 h]
theorem rLk_03 (ρ : QSt) (a : Nat) : ρ 0 3 ≤ rLk ρ a 0 3 ∧ rLk ρ a 0 3 ≤ ρ 0 3 + 1 := by
  unfold rLk
  split
  · unfold rLkA; split
    · exact ⟨Nat.le_refl _, Nat.le_succ _⟩
    · exact ⟨Nat.le_refl _, Nat.le_succ _⟩
  · rw [rLkS_r (by decide)]; exact rLkB_03
theorem rLs_ok {ρ : QSt} (h : rWF ρ) (hn : ρ 0 3 + ρ 0 2 ≤ 1300) : ∀ i, i ≤ ρ 0 2 → rWF (rLs ρ i) ∧ (∀ j, j ≠ 3 → rLs ρ i 0 j = ρ 0 j) ∧ rLs ρ i 0 3 ≤ ρ 0 3 + i
  | 0, _ => ⟨h, fun _ _ => rfl, Nat.le_refl _⟩
  | i + 1, hi => by
    obtain ⟨g1, g2, g3⟩ := rLs_ok h hn i (by omega)
    have h2 := g2 2 (by decide)
    refine ⟨rLk_rwf g1 (by omega) (fun _ _ => by omega), fun j hj => (rLk_0 hj).trans (g2 j hj), ?_⟩
    have := rLk_03 (rLs ρ i) i
    show rLk (rLs ρ i) i 0 3 ≤ _
    omega

set_option maxHeartbeats 4000000 in
set_option maxRecDepth 100000 in
theorem m_rsetBudget (l : Launch) (G : QG) (A : Nat → Prop) (ρ bd : QSt) (hF : rWF (rT ρ)) (s0 b0 N : Nat) (hs0 : s0 < 4) (hb0 : b0 ≤ 9999) (hN : rDrp (qup (rT ρ) 48 s0 b0) s0 N) : Met l yX8_setBudget wsX8_setBudget ({ frames := 3, cells := 0, slots := 0, locals := 72 } : Room) (rR G A ρ bd [.ref (bd 0 0), .int (nI s0), .int (nI b0)]) (qWV (some (.int (nI N))) (rW G A (rDs (qup (rT ρ) 48 s0 b0) s0 N) bd) A) 0 0 A := by
  refine Met.ofW (cc := cX8_setBudget) (maxL := 3) (ret := (some .int)) (by decide) rfl ?_
  intro p e s m args below meth c s₁ B hml hv
  obtain ⟨rfl, hC, hW⟩ := hv
  have hx := B.exec
  have hb := B.bytes
  have hr := B.returns
  have hts := atoms_spec (ws := wsX8_setBudget) B.pre
  have hown : s.vm.findClass RX8 = some m.cls := findClass_of_methodNamed B.named
  have hlocks := B.notSynchronized
  have hB := hF.1
  have hn := hF.n
  have hS : va_S A s.heap s.heap [] := va_S.rf
  have hl := lv_entry ([.ref (bd 0 0), .int (nI s0), .int (nI b0)]) (n := 3) (Nat.le_of_ble_eq_true rfl)
  rw [lg_entry_eq]
  generalize (lg_sl ([.ref (bd 0 0), .int (nI s0), .int (nI b0)]) ++ List.replicate (3 - (lg_sl ([.ref (bd 0 0), .int (nI s0), .int (nI b0)])).length) Slot.unset).toArray = ls at hl ⊢
  have hl : lv_has ls 3 [(0, .ref (bd 0 0)), (1, .int (nI s0)), (2, .int (nI b0))] := hl
  have iRX8 : ∀ w ∈ wsX80, w ∈ wsX8_setBudget := by decide +kernel
  refine lv_aload_n hx hb dX8_setBudget_0 rfl (lv_at hl 0 rfl) ?_
  refine lv_iconst (v := nI 0) hx hb dX8_setBudget_1 (by decide) ?_
  refine q_put (C := RX8) (T := TX8) (N := 36) (ty := .int) (v := .int (nI 0)) hx hb hts iRX8 tyX8 tyX8_ok nmX8 hown hC.1 (hW.to rLV0) (hW.in rLV0) hS rfl 0 (by decide) (hts (.fieldLink RX8 100 "LogWeaveModel" "thrown" "I") (List.mem_of_getElem? (i := 1) (by decide +kernel))) rfl rfl (by decide +kernel) rfl rfl (Nat.le_of_ble_eq_true rfl) dX8_setBudget_2 (fun H1 locs hat hsz hoq hS => ?_)
  have hW := hW.upR 2 0 0 rfl rLV0 ((rLV0 (ρ := (qup ρ 2 0 0))).trans (by rw [qup_s]; rfl)) hat hoq
  have hW : rW G A (rT ρ) bd _ := hW
  refine lv_aload_n hx hb dX8_setBudget_5 rfl (lv_at hl 0 rfl) ?_
  refine lv_iload_n hx hb dX8_setBudget_6 rfl (lv_at hl 1 rfl) ?_
  refine q_v (va_runS (As := [.int (nI s0)]) (rest := [.ref (bd 0 0)]) ⟨hx, hb, hml, hown, hts⟩ (m_risSource l (nI s0)) (va_cwS 1 hts gX8_setBudget_X8_isSource rfl rfl rfl (by decide +kernel) ⟨Nat.le_of_ble_eq_true rfl, Nat.le_of_ble_eq_true rfl⟩) ⟨qU.blind, qU.pre⟩ rfl rfl hl.1 rfl (lv_room (Nat.le_of_ble_eq_true rfl)) dX8_setBudget_7 ⟨Nat.le_of_ble_eq_true rfl, Nat.le_of_ble_eq_true rfl⟩) hS (fun _ h => h.elim) (fun locs hS => ?_)
  refine q_ti (y := nI 1) (by rw [qB_t ⟨nI_le (by omega) (by omega), nI_le (by omega) (by decide)⟩]) ?_
  refine q_eq0 (tgt := 24) hx hb (by decide) dX8_setBudget_10 (by decide) (fun g1 => (by omega)) (fun g1 => ?_)
  refine lv_iload_n hx hb dX8_setBudget_13 rfl (lv_at hl 2 rfl) ?_
  refine lv_iconst (v := nI 0) hx hb dX8_setBudget_14 (by decide) ?_
  refine lv_sipush (v := nI 9999) hx hb dX8_setBudget_15 (by decide) ?_
  refine q_v (va_runS (As := [.int (nI b0), .int (nI 0), .int (nI 9999)]) (rest := [.ref (bd 0 0)]) ⟨hx, hb, hml, hown, hts⟩ (m_rin l (nI b0) (nI 0) (nI 9999)) (va_cwS 3 hts gX8_setBudget_X8_in rfl rfl rfl (by decide +kernel) ⟨Nat.le_of_ble_eq_true rfl, Nat.le_of_ble_eq_true rfl⟩) ⟨qU.blind, qU.pre⟩ rfl rfl hl.1 rfl (lv_room (Nat.le_of_ble_eq_true rfl)) dX8_setBudget_18 ⟨Nat.le_of_ble_eq_true rfl, Nat.le_of_ble_eq_true rfl⟩) hS (fun _ h => h.elim) (fun locs hS => ?_)
  refine q_ti (y := nI 1) (by rw [qB_t ⟨nI_le (by omega) (by omega), nI_le (by omega) (by decide)⟩]) ?_
  refine q_ne0 (tgt := 28) hx hb (by decide) dX8_setBudget_21 (by decide) (fun g2 => ?_) (fun g2 => (by omega))
  refine lv_iconst (v := nI 0) hx hb dX8_setBudget_28 (by decide) ?_
  refine lv_iconst (v := nI 1) hx hb dX8_setBudget_29 (by decide) ?_
  refine q_v (va_runV (As := [.int (nI 0), .int (nI 1)]) (rest := []) ⟨hx, hb, hml, hown, hts⟩ (m_rfails0 l G A (rT ρ) bd hF 1 (rT_0 ρ)) (cwV 2 hts gX8_setBudget_X8_fails rfl rfl rfl (by decide +kernel) ⟨Nat.le_of_ble_eq_true rfl, Nat.le_of_ble_eq_true rfl⟩) ⟨rR.blind, qrecv hC (hW.to rLV0) rfl, rR.pre hC hW⟩ rfl rfl hl.1 rfl (lv_room (Nat.le_of_ble_eq_true rfl)) dX8_setBudget_30 ⟨Nat.le_of_ble_eq_true rfl, Nat.le_of_ble_eq_true rfl⟩) hS (fun _ h => h.elim) (fun locs hS => ?_)
  refine q_eq0 (tgt := 38) hx hb (by decide) dX8_setBudget_33 (by decide) (fun g3 => ?_) (fun g3 => (by omega))
  refine lv_aload_n hx hb dX8_setBudget_38 rfl (lv_at hl 0 rfl) ?_
  refine q_get (C := RX8) (T := TX8) (N := 36) hx hb hts iRX8 hown hC.1 (hW.to rLV0) rfl 30 (by decide) (hts (.fieldLink RX8 85 "LogWeaveModel" "budget" "[I") (List.mem_of_getElem? (i := 2) (by decide +kernel))) rfl (v := .ref (bd 25 0)) rfl dX8_setBudget_39 ?_
  refine lv_iload_n hx hb dX8_setBudget_42 rfl (lv_at hl 1 rfl) ?_
  refine lv_iload_n hx hb dX8_setBudget_43 rfl (lv_at hl 2 rfl) ?_
  refine q_iast hx hb hC.1 (hW.to rLV25) (hW.in rLV25) hS 1 rfl (vp_in_nI (n := s0) (by omega) (by decide)) dX8_setBudget_44 (fun H1 locs hat hsz hoq hS => ?_)
  rw [nI_clamp (n := s0) (by omega)] at hat
  rw [r_upd (rT ρ) 48 s0 b0] at hat
  have hW := hW.upR 48 s0 b0 rfl rLV25 (rLV25 (ρ := (qup (rT ρ) 48 s0 b0))) hat hoq
  refine lv_aload_n hx hb dX8_setBudget_45 rfl (lv_at hl 0 rfl) ?_
  refine lv_iload_n hx hb dX8_setBudget_46 rfl (lv_at hl 1 rfl) ?_
  have hF2 := hF.up 48 s0 b0 (by omega) (by decide)
  refine q_wv (va_runV (As := [.int (nI s0)]) (rest := []) ⟨hx, hb, hml, hown, hts⟩ (m_rdrops l G A (qup (rT ρ) 48 s0 b0) bd hF2 s0 N hs0 hN) (cwV 1 hts gX8_setBudget_X8_drops rfl rfl rfl (by decide +kernel) ⟨Nat.le_of_ble_eq_true rfl, Nat.le_of_ble_eq_true rfl⟩) ⟨rR.blind, qrecv hC (hW.to rLV0) rfl, rR.pre hC hW⟩ rfl rfl hl.1 rfl (lv_room (Nat.le_of_ble_eq_true rfl)) dX8_setBudget_47 ⟨Nat.le_of_ble_eq_true rfl, Nat.le_of_ble_eq_true rfl⟩) hS (fun _ h => h) (fun _ h => h) (fun H1 locs hW hz hk hS => ?_)
  exact W.iret hx hb hr (fun t ht _ => ⟨rfl, by rw [ht]; exact hW, hS.F ht⟩) hS.2.2 dX8_setBudget_50
set_option maxHeartbeats 4000000 in
set_option maxRecDepth 100000 in
theorem m_rarchive (l : Launch) (G : QG) (A : Nat → Prop) (ρ bd : QSt) (hF : rWF (rT ρ)) (i : Nat) (hi : i < (rT ρ) 0 0) (hk : (rT ρ) 69 i = 107) : Met l yX8_archive wsX8_archive ({ frames := 2, cells := 0, slots := 0, locals := 43 } : Room) (rR G A ρ bd [.ref (bd 0 0), .int (nI i)]) (qWV (some (.int (nI (qkept (qup (rT ρ) 69 i 97) ((qup (rT ρ) 69 i 97) 64 i))))) (rW G A (qup (rT ρ) 69 i 97) bd) A) 0 0 A := by
  refine Met.ofW (cc := cX8_archive) (maxL := 2) (ret := (some .int)) (by decide) rfl ?_
  intro p e s m args below meth c s₁ B hml hv
  obtain ⟨rfl, hC, hW⟩ := hv
  have hx := B.exec
  have hb := B.bytes
  have hr := B.returns
  have hts := atoms_spec (ws := wsX8_archive) B.pre
  have hown : s.vm.findClass RX8 = some m.cls := findClass_of_methodNamed B.named
  have hlocks := B.notSynchronized
  have hB := hF.1
  have hn := hF.n
  have hS : va_S A s.heap s.heap [] := va_S.rf
  have hl := lv_entry ([.ref (bd 0 0), .int (nI i)]) (n := 2) (Nat.le_of_ble_eq_true rfl)
  rw [lg_entry_eq]
  generalize (lg_sl ([.ref (bd 0 0), .int (nI i)]) ++ List.replicate (2 - (lg_sl ([.ref (bd 0 0), .int (nI i)])).length) Slot.unset).toArray = ls at hl ⊢
  have hl : lv_has ls 2 [(0, .ref (bd 0 0)), (1, .int (nI i))] := hl
  have iRX8 : ∀ w ∈ wsX80, w ∈ wsX8_archive := by decide +kernel
  refine lv_aload_n hx hb dX8_archive_0 rfl (lv_at hl 0 rfl) ?_
  refine lv_iconst (v := nI 0) hx hb dX8_archive_1 (by decide) ?_
  refine q_put (C := RX8) (T := TX8) (N := 36) (ty := .int) (v := .int (nI 0)) hx hb hts iRX8 tyX8 tyX8_ok nmX8 hown hC.1 (hW.to rLV0) (hW.in rLV0) hS rfl 0 (by decide) (hts (.fieldLink RX8 100 "LogWeaveModel" "thrown" "I") (List.mem_of_getElem? (i := 1) (by decide +kernel))) rfl rfl (by decide +kernel) rfl rfl (Nat.le_of_ble_eq_true rfl) dX8_archive_2 (fun H1 locs hat hsz hoq hS => ?_)
  have hW := hW.upR 2 0 0 rfl rLV0 ((rLV0 (ρ := (qup ρ 2 0 0))).trans (by rw [qup_s]; rfl)) hat hoq
  have hW : rW G A (rT ρ) bd _ := hW
  refine lv_aload_n hx hb dX8_archive_5 rfl (lv_at hl 0 rfl) ?_
  refine lv_aload_n hx hb dX8_archive_6 rfl (lv_at hl 0 rfl) ?_
  refine lv_iload_n hx hb dX8_archive_7 rfl (lv_at hl 1 rfl) ?_
  refine q_v (va_runV (As := [.int (nI i)]) (rest := [.ref (bd 0 0)]) ⟨hx, hb, hml, hown, hts⟩ (m_rnoLine0 l G A (rT ρ) bd hF i hi) (cwV 1 hts gX8_archive_X8_noLine rfl rfl rfl (by decide +kernel) ⟨Nat.le_of_ble_eq_true rfl, Nat.le_of_ble_eq_true rfl⟩) ⟨rR.blind, qrecv hC (hW.to rLV0) rfl, rR.pre hC hW⟩ rfl rfl hl.1 rfl (lv_room (Nat.le_of_ble_eq_true rfl)) dX8_archive_8 ⟨Nat.le_of_ble_eq_true rfl, Nat.le_of_ble_eq_true rfl⟩) hS (fun _ h => h.elim) (fun locs hS => ?_)
  refine lv_iconst (v := nI 1) hx hb dX8_archive_11 (by decide) ?_
  refine q_v (va_runV (As := [.int (nI 0), .int (nI 1)]) (rest := []) ⟨hx, hb, hml, hown, hts⟩ (m_rfails0 l G A (rT ρ) bd hF 1 (rT_0 ρ)) (cwV 2 hts gX8_archive_X8_fails rfl rfl rfl (by decide +kernel) ⟨Nat.le_of_ble_eq_true rfl, Nat.le_of_ble_eq_true rfl⟩) ⟨rR.blind, qrecv hC (hW.to rLV0) rfl, rR.pre hC hW⟩ rfl rfl hl.1 rfl (lv_room (Nat.le_of_ble_eq_true rfl)) dX8_archive_12 ⟨Nat.le_of_ble_eq_true rfl, Nat.le_of_ble_eq_true rfl⟩) hS (fun _ h => h.elim) (fun locs hS => ?_)
  refine q_ne0 (tgt := 42) hx hb (by decide) dX8_archive_15 (by decide) (fun g1 => (by omega)) (fun g1 => ?_)
  refine lv_aload_n hx hb dX8_archive_18 rfl (lv_at hl 0 rfl) ?_
  refine lv_aload_n hx hb dX8_archive_19 rfl (lv_at hl 0 rfl) ?_
  refine q_get (C := RX8) (T := TX8) (N := 36) hx hb hts iRX8 hown hC.1 (hW.to rLV0) rfl 8 (by decide) (hts (.fieldLink RX8 25 "LogWeaveModel" "state" "[C") (List.mem_of_getElem? (i := 2) (by decide +kernel))) rfl (v := .ref (bd 6 0)) rfl dX8_archive_20 ?_
  refine lv_iload_n hx hb dX8_archive_23 rfl (lv_at hl 1 rfl) ?_
  refine r_cald hx hb hC.1 (hW.to rLV6) 3 rfl (i := i) (by omega) (by decide) (v := nI ((rT ρ) 69 i)) rfl dX8_archive_24 ?_
  refine lv_bipush (v := nI 107) hx hb dX8_archive_25 (by decide) ?_
  refine q_eq (tgt := 34) hx hb (q31 (hB _ _)) (by decide) dX8_archive_27 (by decide) (fun g2 => ?_) (fun g2 => ?_)
  · skip
    refine lv_iconst (v := nI 0) hx hb dX8_archive_34 (by decide) ?_
    refine lv_iconst (v := nI 2) hx hb dX8_archive_35 (by decide) ?_
    refine q_v (va_runV (As := [.int (nI 0), .int (nI 2)]) (rest := []) ⟨hx, hb, hml, hown, hts⟩ (m_rfails0 l G A (rT ρ) bd hF 2 (rT_0 ρ)) (cwV 2 hts gX8_archive_X8_fails rfl rfl rfl (by decide +kernel) ⟨Nat.le_of_ble_eq_true rfl, Nat.le_of_ble_eq_true rfl⟩) ⟨rR.blind, qrecv hC (hW.to rLV0) rfl, rR.pre hC hW⟩ rfl rfl hl.1 rfl (lv_room (Nat.le_of_ble_eq_true rfl)) dX8_archive_36 ⟨Nat.le_of_ble_eq_true rfl, Nat.le_of_ble_eq_true rfl⟩) hS (fun _ h => h.elim) (fun locs hS => ?_)
    refine q_eq0 (tgt := 44) hx hb (by decide) dX8_archive_39 (by decide) (fun g3 => ?_) (fun g3 => (by omega))
    refine lv_aload_n hx hb dX8_archive_44 rfl (lv_at hl 0 rfl) ?_
    refine q_get (C := RX8) (T := TX8) (N := 36) hx hb hts iRX8 hown hC.1 (hW.to rLV0) rfl 8 (by decide) (hts (.fieldLink RX8 25 "LogWeaveModel" "state" "[C") (List.mem_of_getElem? (i := 2) (by decide +kernel))) rfl (v := .ref (bd 6 0)) rfl dX8_archive_45 ?_
    refine lv_iload_n hx hb dX8_archive_48 rfl (lv_at hl 1 rfl) ?_
    refine lv_bipush (v := nI 97) hx hb dX8_archive_49 (by decide) ?_
    refine q_cast hx hb hC.1 (hW.to rLV6) (hW.in rLV6) hS 3 rfl (vp_in_nI (n := i) (by omega) (by decide)) dX8_archive_51 (fun H1 locs hat hsz hoq hS => ?_)
    rw [nI_clamp (n := i) (by omega)] at hat
    rw [show vp_nar .char (nI 97) = nI 97 from by decide] at hat
    rw [r_upd (rT ρ) 69 i 97] at hat
    have hW := hW.upR 69 i 97 rfl rLV6 (rLV6 (ρ := (qup (rT ρ) 69 i 97))) hat hoq
    refine lv_aload_n hx hb dX8_archive_52 rfl (lv_at hl 0 rfl) ?_
    refine lv_aload_n hx hb dX8_archive_53 rfl (lv_at hl 0 rfl) ?_
    refine q_get (C := RX8) (T := TX8) (N := 36) hx hb hts iRX8 hown hC.1 (hW.to rLV0) rfl 3 (by decide) (hts (.fieldLink RX8 7 "LogWeaveModel" "source" "[I") (List.mem_of_getElem? (i := 3) (by decide +kernel))) rfl (v := .ref (bd 1 0)) rfl dX8_archive_54 ?_
    refine lv_iload_n hx hb dX8_archive_57 rfl (lv_at hl 1 rfl) ?_
    refine r_iald hx hb hC.1 (hW.to rLV1) 1 rfl (i := i) (by omega) (by decide) (v := nI ((qup (rT ρ) 69 i 97) 64 i)) rfl dX8_archive_58 ?_
    have hF2 := hF.up 69 i 97 (by decide) (by decide)
    refine q_v (va_runV (As := [.int (nI ((qup (rT ρ) 69 i 97) 64 i))]) (rest := []) ⟨hx, hb, hml, hown, hts⟩ (m_rkeptNow l G A (qup (rT ρ) 69 i 97) bd hF2 ((qup (rT ρ) 69 i 97) 64 i) (hF2.1 _ _)) (cwV 1 hts gX8_archive_X8_keptNow rfl rfl rfl (by decide +kernel) ⟨Nat.le_of_ble_eq_true rfl, Nat.le_of_ble_eq_true rfl⟩) ⟨rR.blind, qrecv hC (hW.to rLV0) rfl, rR.pre hC hW⟩ rfl rfl hl.1 rfl (lv_room (Nat.le_of_ble_eq_true rfl)) dX8_archive_59 ⟨Nat.le_of_ble_eq_true rfl, Nat.le_of_ble_eq_true rfl⟩) hS (fun _ h => h.elim) (fun locs hS => ?_)
    exact W.iret hx hb hr (fun t ht _ => ⟨rfl, by rw [ht]; exact hW, hS.F ht⟩) hS.2.2 dX8_archive_62
  · skip
    refine lv_iconst (v := nI 1) hx hb dX8_archive_30 (by decide) ?_
    refine lv_goto (tgt := 35) hx hb dX8_archive_31 (by decide) ?_
    refine lv_iconst (v := nI 2) hx hb dX8_archive_35 (by decide) ?_
    refine q_wv (va_runV (As := [.int (nI 1), .int (nI 2)]) (rest := []) ⟨hx, hb, hml, hown, hts⟩ (m_rfails1 l G A (rT ρ) bd hF 2 (by decide) (by decide) (rT_0 ρ)) (cwV 2 hts gX8_archive_X8_fails rfl rfl rfl (by decide +kernel) ⟨Nat.le_of_ble_eq_true rfl, Nat.le_of_ble_eq_true rfl⟩) ⟨rR.blind, qrecv hC (hW.to rLV0) rfl, rR.pre hC hW⟩ rfl rfl hl.1 rfl (lv_room (Nat.le_of_ble_eq_true rfl)) dX8_archive_36 ⟨Nat.le_of_ble_eq_true rfl, Nat.le_of_ble_eq_true rfl⟩) hS (fun _ h => h) (fun _ h => h) (fun H1 locs hW hz hk hS => ?_)
    refine q_eq0 (tgt := 44) hx hb (by decide) dX8_archive_39 (by decide) (fun g4 => (by omega)) (fun g4 => ?_)
    refine lv_iconst (v := nI 0) hx hb dX8_archive_42 (by decide) ?_
    omega
set_option maxHeartbeats 4000000 in
set_option maxRecDepth 100000 in
theorem m_rrequest (l : Launch) (G : QG) (A : Nat → Prop) (ρ bd : QSt) (hF : rWF (rT ρ)) (s0 r0 : Nat) (hs0 : s0 < 4) (hr0 : r0 < 5) (hn4 : (rT ρ) 0 4 < 20) : Met l yX8_request wsX8_request ({ frames := 2, cells := 0, slots := 0, locals := 42 } : Room) (rR G A ρ bd [.ref (bd 0 0), .int (nI s0), .int (nI r0)]) (qWV (some (.int (nI ((rT ρ) 0 4)))) (rW G A (rRq (rT ρ) s0 r0) bd) A) 0 0 A := by
  refine Met.ofW (cc := cX8_request) (maxL := 3) (ret := (some .int)) (by decide) rfl ?_
  intro p e s m args below meth c s₁ B hml hv
  obtain ⟨rfl, hC, hW⟩ := hv
  have hx := B.exec
  have hb := B.bytes
  have hr := B.returns
  have hts := atoms_spec (ws := wsX8_request) B.pre
  have hown : s.vm.findClass RX8 = some m.cls := findClass_of_methodNamed B.named
  have hlocks := B.notSynchronized
  have hB := hF.1
  have hn := hF.n
  have hS : va_S A s.heap s.heap [] := va_S.rf
  have hl := lv_entry ([.ref (bd 0 0), .int (nI s0), .int (nI r0)]) (n := 3) (Nat.le_of_ble_eq_true rfl)
  rw [lg_entry_eq]
  generalize (lg_sl ([.ref (bd 0 0), .int (nI s0), .int (nI r0)]) ++ List.replicate (3 - (lg_sl ([.ref (bd 0 0), .int (nI s0), .int (nI r0)])).length) Slot.unset).toArray = ls at hl ⊢
  have hl : lv_has ls 3 [(0, .ref (bd 0 0)), (1, .int (nI s0)), (2, .int (nI r0))] := hl
  have iRX8 : ∀ w ∈ wsX80, w ∈ wsX8_request := by decide +kernel
  refine lv_aload_n hx hb dX8_request_0 rfl (lv_at hl 0 rfl) ?_
  refine lv_iconst (v := nI 0) hx hb dX8_request_1 (by decide) ?_
  refine q_put (C := RX8) (T := TX8) (N := 36) (ty := .int) (v := .int (nI 0)) hx hb hts iRX8 tyX8 tyX8_ok nmX8 hown hC.1 (hW.to rLV0) (hW.in rLV0) hS rfl 0 (by decide) (hts (.fieldLink RX8 100 "LogWeaveModel" "thrown" "I") (List.mem_of_getElem? (i := 1) (by decide +kernel))) rfl rfl (by decide +kernel) rfl rfl (Nat.le_of_ble_eq_true rfl) dX8_request_2 (fun H1 locs hat hsz hoq hS => ?_)
  have hW := hW.upR 2 0 0 rfl rLV0 ((rLV0 (ρ := (qup ρ 2 0 0))).trans (by rw [qup_s]; rfl)) hat hoq
  have hW : rW G A (rT ρ) bd _ := hW
  have hB1 := hB 1 0
  refine lv_aload_n hx hb dX8_request_5 rfl (lv_at hl 0 rfl) ?_
  refine lv_iload_n hx hb dX8_request_6 rfl (lv_at hl 1 rfl) ?_
  refine q_v (va_runS (As := [.int (nI s0)]) (rest := [.ref (bd 0 0)]) ⟨hx, hb, hml, hown, hts⟩ (m_risSource l (nI s0)) (va_cwS 1 hts gX8_request_X8_isSource rfl rfl rfl (by decide +kernel) ⟨Nat.le_of_ble_eq_true rfl, Nat.le_of_ble_eq_true rfl⟩) ⟨qU.blind, qU.pre⟩ rfl rfl hl.1 rfl (lv_room (Nat.le_of_ble_eq_true rfl)) dX8_request_7 ⟨Nat.le_of_ble_eq_true rfl, Nat.le_of_ble_eq_true rfl⟩) hS (fun _ h => h.elim) (fun locs hS => ?_)
  refine q_ti (y := nI 1) (by rw [qB_t ⟨nI_le (by omega) (by omega), nI_le (by omega) (by decide)⟩]) ?_
  refine q_eq0 (tgt := 20) hx hb (by decide) dX8_request_10 (by decide) (fun g1 => (by omega)) (fun g1 => ?_)
  refine lv_iload_n hx hb dX8_request_13 rfl (lv_at hl 2 rfl) ?_
  refine q_v (va_runS (As := [.int (nI r0)]) (rest := [.ref (bd 0 0)]) ⟨hx, hb, hml, hown, hts⟩ (m_risRank l (nI r0)) (va_cwS 1 hts gX8_request_X8_isRank rfl rfl rfl (by decide +kernel) ⟨Nat.le_of_ble_eq_true rfl, Nat.le_of_ble_eq_true rfl⟩) ⟨qU.blind, qU.pre⟩ rfl rfl hl.1 rfl (lv_room (Nat.le_of_ble_eq_true rfl)) dX8_request_14 ⟨Nat.le_of_ble_eq_true rfl, Nat.le_of_ble_eq_true rfl⟩) hS (fun _ h => h.elim) (fun locs hS => ?_)
  refine q_ti (y := nI 1) (by rw [qB_t ⟨nI_le (by omega) (by omega), nI_le (by omega) (by decide)⟩]) ?_
  refine q_ne0 (tgt := 24) hx hb (by decide) dX8_request_17 (by decide) (fun g2 => ?_) (fun g2 => (by omega))
  refine lv_iconst (v := nI 0) hx hb dX8_request_24 (by decide) ?_
  refine lv_iconst (v := nI 1) hx hb dX8_request_25 (by decide) ?_
  refine q_v (va_runV (As := [.int (nI 0), .int (nI 1)]) (rest := []) ⟨hx, hb, hml, hown, hts⟩ (m_rfails0 l G A (rT ρ) bd hF 1 (rT_0 ρ)) (cwV 2 hts gX8_request_X8_fails rfl rfl rfl (by decide +kernel) ⟨Nat.le_of_ble_eq_true rfl, Nat.le_of_ble_eq_true rfl⟩) ⟨rR.blind, qrecv hC (hW.to rLV0) rfl, rR.pre hC hW⟩ rfl rfl hl.1 rfl (lv_room (Nat.le_of_ble_eq_true rfl)) dX8_request_26 ⟨Nat.le_of_ble_eq_true rfl, Nat.le_of_ble_eq_true rfl⟩) hS (fun _ h => h.elim) (fun locs hS => ?_)
  refine q_ne0 (tgt := 54) hx hb (by decide) dX8_request_29 (by decide) (fun g3 => (by omega)) (fun g3 => ?_)
  refine lv_aload_n hx hb dX8_request_32 rfl (lv_at hl 0 rfl) ?_
  refine lv_aload_n hx hb dX8_request_33 rfl (lv_at hl 0 rfl) ?_
  refine q_get (C := RX8) (T := TX8) (N := 36) hx hb hts iRX8 hown hC.1 (hW.to rLV0) rfl 31 (by decide) (hts (.fieldLink RX8 181 "LogWeaveModel" "requests" "I") (List.mem_of_getElem? (i := 2) (by decide +kernel))) rfl (v := .int (nI ((rT ρ) 0 4))) rfl dX8_request_34 ?_
  refine q_ti (y := nI ((rT ρ) 0 4)) rfl ?_
  refine lv_bipush (v := nI 20) hx hb dX8_request_37 (by decide) ?_
  refine q_ne (tgt := 46) hx hb (q31 (hB _ _)) (by decide) dX8_request_39 (by decide) (fun g4 => ?_) (fun g4 => ?_)
  · skip
    refine lv_iconst (v := nI 0) hx hb dX8_request_46 (by decide) ?_
    refine lv_iconst (v := nI 2) hx hb dX8_request_47 (by decide) ?_
    refine q_v (va_runV (As := [.int (nI 0), .int (nI 2)]) (rest := []) ⟨hx, hb, hml, hown, hts⟩ (m_rfails0 l G A (rT ρ) bd hF 2 (rT_0 ρ)) (cwV 2 hts gX8_request_X8_fails rfl rfl rfl (by decide +kernel) ⟨Nat.le_of_ble_eq_true rfl, Nat.le_of_ble_eq_true rfl⟩) ⟨rR.blind, qrecv hC (hW.to rLV0) rfl, rR.pre hC hW⟩ rfl rfl hl.1 rfl (lv_room (Nat.le_of_ble_eq_true rfl)) dX8_request_48 ⟨Nat.le_of_ble_eq_true rfl, Nat.le_of_ble_eq_true rfl⟩) hS (fun _ h => h.elim) (fun locs hS => ?_)
    refine q_eq0 (tgt := 56) hx hb (by decide) dX8_request_51 (by decide) (fun g5 => ?_) (fun g5 => (by omega))
    refine lv_aload_n hx hb dX8_request_56 rfl (lv_at hl 0 rfl) ?_
    refine q_get (C := RX8) (T := TX8) (N := 36) hx hb hts iRX8 hown hC.1 (hW.to rLV0) rfl 32 (by decide) (hts (.fieldLink RX8 88 "LogWeaveModel" "asked" "[I") (List.mem_of_getElem? (i := 3) (by decide +kernel))) rfl (v := .ref (bd 26 0)) rfl dX8_request_57 ?_
    refine lv_aload_n hx hb dX8_request_60 rfl (lv_at hl 0 rfl) ?_
    refine q_get (C := RX8) (T := TX8) (N := 36) hx hb hts iRX8 hown hC.1 (hW.to rLV0) rfl 31 (by decide) (hts (.fieldLink RX8 181 "LogWeaveModel" "requests" "I") (List.mem_of_getElem? (i := 2) (by decide +kernel))) rfl (v := .int (nI ((rT ρ) 0 4))) rfl dX8_request_61 ?_
    refine q_ti (y := nI ((rT ρ) 0 4)) rfl ?_
    refine lv_iload_n hx hb dX8_request_64 rfl (lv_at hl 1 rfl) ?_
    refine q_iast hx hb hC.1 (hW.to rLV26) (hW.in rLV26) hS 1 rfl (vp_in_nI (n := ((rT ρ) 0 4)) (by omega) (by decide)) dX8_request_65 (fun H1 locs hat hsz hoq hS => ?_)
    rw [nI_clamp (n := ((rT ρ) 0 4)) (by omega)] at hat
    rw [r_upd (rT ρ) 208 ((rT ρ) 0 4) s0] at hat
    have hW := hW.upR 208 ((rT ρ) 0 4) s0 rfl rLV26 (rLV26 (ρ := (qup (rT ρ) 208 ((rT ρ) 0 4) s0))) hat hoq
    refine lv_aload_n hx hb dX8_request_66 rfl (lv_at hl 0 rfl) ?_
    refine q_get (C := RX8) (T := TX8) (N := 36) hx hb hts iRX8 hown hC.1 (hW.to rLV0) rfl 33 (by decide) (hts (.fieldLink RX8 91 "LogWeaveModel" "askedRank" "[I") (List.mem_of_getElem? (i := 4) (by decide +kernel))) rfl (v := .ref (bd 27 0)) rfl dX8_request_67 ?_
    refine lv_aload_n hx hb dX8_request_70 rfl (lv_at hl 0 rfl) ?_
    refine q_get (C := RX8) (T := TX8) (N := 36) hx hb hts iRX8 hown hC.1 (hW.to rLV0) rfl 31 (by decide) (hts (.fieldLink RX8 181 "LogWeaveModel" "requests" "I") (List.mem_of_getElem? (i := 2) (by decide +kernel))) rfl (v := .int (nI ((qup (rT ρ) 208 ((rT ρ) 0 4) s0) 0 4))) rfl dX8_request_71 ?_
    refine q_ti (y := nI ((rT ρ) 0 4)) rfl ?_
    refine lv_iload_n hx hb dX8_request_74 rfl (lv_at hl 2 rfl) ?_
    refine q_iast hx hb hC.1 (hW.to rLV27) (hW.in rLV27) hS 1 rfl (vp_in_nI (n := ((rT ρ) 0 4)) (by omega) (by decide)) dX8_request_75 (fun H1 locs hat hsz hoq hS => ?_)
    rw [nI_clamp (n := ((rT ρ) 0 4)) (by omega)] at hat
    rw [r_upd (qup (rT ρ) 208 ((rT ρ) 0 4) s0) 209 ((rT ρ) 0 4) r0] at hat
    have hW := hW.upR 209 ((rT ρ) 0 4) r0 rfl rLV27 (rLV27 (ρ := (qup (qup (rT ρ) 208 ((rT ρ) 0 4) s0) 209 ((rT ρ) 0 4) r0))) hat hoq
    refine lv_aload_n hx hb dX8_request_76 rfl (lv_at hl 0 rfl) ?_
    refine q_get (C := RX8) (T := TX8) (N := 36) hx hb hts iRX8 hown hC.1 (hW.to rLV0) rfl 34 (by decide) (hts (.fieldLink RX8 94 "LogWeaveModel" "due" "[I") (List.mem_of_getElem? (i := 5) (by decide +kernel))) rfl (v := .ref (bd 28 0)) rfl dX8_request_77 ?_
    refine lv_aload_n hx hb dX8_request_80 rfl (lv_at hl 0 rfl) ?_
    refine q_get (C := RX8) (T := TX8) (N := 36) hx hb hts iRX8 hown hC.1 (hW.to rLV0) rfl 31 (by decide) (hts (.fieldLink RX8 181 "LogWeaveModel" "requests" "I") (List.mem_of_getElem? (i := 2) (by decide +kernel))) rfl (v := .int (nI ((qup (qup (rT ρ) 208 ((rT ρ) 0 4) s0) 209 ((rT ρ) 0 4) r0) 0 4))) rfl dX8_request_81 ?_
    refine q_ti (y := nI ((rT ρ) 0 4)) rfl ?_
    refine lv_aload_n hx hb dX8_request_84 rfl (lv_at hl 0 rfl) ?_
    refine q_get (C := RX8) (T := TX8) (N := 36) hx hb hts iRX8 hown hC.1 (hW.to rLV0) rfl 1 (by decide) (hts (.fieldLink RX8 132 "LogWeaveModel" "tick" "I") (List.mem_of_getElem? (i := 6) (by decide +kernel))) rfl (v := .int (nI ((qup (qup (rT ρ) 208 ((rT ρ) 0 4) s0) 209 ((rT ρ) 0 4) r0) 1 0))) rfl dX8_request_85 ?_
    refine q_ti (y := nI ((rT ρ) 1 0)) rfl ?_
    refine lv_iconst (v := nI 2) hx hb dX8_request_88 (by decide) ?_
    refine lv_iadd hx hb dX8_request_89 ?_
    refine q_ti (nI_add ((rT ρ) 1 0) 2) ?_
    refine lv_aload_n hx hb dX8_request_90 rfl (lv_at hl 0 rfl) ?_
    refine lv_iload_n hx hb dX8_request_91 rfl (lv_at hl 1 rfl) ?_
    refine lv_bipush (v := nI 97) hx hb dX8_request_92 (by decide) ?_
    refine lv_iconst (v := nI 0) hx hb dX8_request_94 (by decide) ?_
    have hF2 := (hF.up 208 ((rT ρ) 0 4) s0 (by omega) (by decide)).up 209 ((rT ρ) 0 4) r0 (by omega) (by decide)
    have hC9 : (qsum (fun l => qB ((rT ρ) 64 l = s0 ∧ (rT ρ) 69 l = 97 ∧ 0 ≤ (rT ρ) 65 l)) ((rT ρ) 0 0)) ≤ 200 := Nat.le_trans (qsum_bound (b := 1) _ (fun l _ => qB_le)) (by omega)
    refine q_v (va_runV (As := [.int (nI s0), .int (nI 97), .int (nI 0)]) (rest := [.int (nI (((rT ρ) 1 0) + 2)), .int (nI ((rT ρ) 0 4)), .ref (bd 28 0)]) ⟨hx, hb, hml, hown, hts⟩ (m_rcount l G A (qup (qup (rT ρ) 208 ((rT ρ) 0 4) s0) 209 ((rT ρ) 0 4) r0) bd hF2 s0 (by omega) 97 0 (by decide) (by decide)) (cwV 3 hts gX8_request_X8_count rfl rfl rfl (by decide +kernel) ⟨Nat.le_of_ble_eq_true rfl, Nat.le_of_ble_eq_true rfl⟩) ⟨rR.blind, qrecv hC (hW.to rLV0) rfl, rR.pre hC hW⟩ rfl rfl hl.1 rfl (lv_room (Nat.le_of_ble_eq_true rfl)) dX8_request_95 ⟨Nat.le_of_ble_eq_true rfl, Nat.le_of_ble_eq_true rfl⟩) hS (fun _ h => h.elim) (fun locs hS => ?_)
    refine q_ti (y := nI (qsum (fun l => qB ((rT ρ) 64 l = s0 ∧ (rT ρ) 69 l = 97 ∧ 0 ≤ (rT ρ) 65 l)) ((rT ρ) 0 0))) rfl ?_
    refine lv_iconst (v := nI 3) hx hb dX8_request_98 (by decide) ?_
    refine lv_idiv hx hb dX8_request_99 (by decide) ?_
    refine q_ti (pk_div (by omega) (by decide) (by decide)) ?_
    refine lv_iadd hx hb dX8_request_100 ?_
    refine q_ti (nI_add (((rT ρ) 1 0) + 2) ((qsum (fun l => qB ((rT ρ) 64 l = s0 ∧ (rT ρ) 69 l = 97 ∧ 0 ≤ (rT ρ) 65 l)) ((rT ρ) 0 0)) / 3)) ?_
    refine q_iast hx hb hC.1 (hW.to rLV28) (hW.in rLV28) hS 1 rfl (vp_in_nI (n := ((rT ρ) 0 4)) (by omega) (by decide)) dX8_request_101 (fun H1 locs hat hsz hoq hS => ?_)
    rw [nI_clamp (n := ((rT ρ) 0 4)) (by omega)] at hat
    rw [r_upd (qup (qup (rT ρ) 208 ((rT ρ) 0 4) s0) 209 ((rT ρ) 0 4) r0) 192 ((rT ρ) 0 4) ((((rT ρ) 1 0) + 2) + ((qsum (fun l => qB ((rT ρ) 64 l = s0 ∧ (rT ρ) 69 l = 97 ∧ 0 ≤ (rT ρ) 65 l)) ((rT ρ) 0 0)) / 3))] at hat
    have hW := hW.upR 192 ((rT ρ) 0 4) ((((rT ρ) 1 0) + 2) + ((qsum (fun l => qB ((rT ρ) 64 l = s0 ∧ (rT ρ) 69 l = 97 ∧ 0 ≤ (rT ρ) 65 l)) ((rT ρ) 0 0)) / 3)) rfl rLV28 (rLV28 (ρ := (qup (qup (qup (rT ρ) 208 ((rT ρ) 0 4) s0) 209 ((rT ρ) 0 4) r0) 192 ((rT ρ) 0 4) ((((rT ρ) 1 0) + 2) + ((qsum (fun l => qB ((rT ρ) 64 l = s0 ∧ (rT ρ) 69 l = 97 ∧ 0 ≤ (rT ρ) 65 l)) ((rT ρ) 0 0)) / 3))))) hat hoq
    refine lv_aload_n hx hb dX8_request_102 rfl (lv_at hl 0 rfl) ?_
    refine q_get (C := RX8) (T := TX8) (N := 36) hx hb hts iRX8 hown hC.1 (hW.to rLV0) rfl 35 (by decide) (hts (.fieldLink RX8 97 "LogWeaveModel" "answer" "[I") (List.mem_of_getElem? (i := 7) (by decide +kernel))) rfl (v := .ref (bd 29 0)) rfl dX8_request_103 ?_
    refine lv_aload_n hx hb dX8_request_106 rfl (lv_at hl 0 rfl) ?_
    refine q_get (C := RX8) (T := TX8) (N := 36) hx hb hts iRX8 hown hC.1 (hW.to rLV0) rfl 31 (by decide) (hts (.fieldLink RX8 181 "LogWeaveModel" "requests" "I") (List.mem_of_getElem? (i := 2) (by decide +kernel))) rfl (v := .int (nI ((qup (qup (qup (rT ρ) 208 ((rT ρ) 0 4) s0) 209 ((rT ρ) 0 4) r0) 192 ((rT ρ) 0 4) ((((rT ρ) 1 0) + 2) + ((qsum (fun l => qB ((rT ρ) 64 l = s0 ∧ (rT ρ) 69 l = 97 ∧ 0 ≤ (rT ρ) 65 l)) ((rT ρ) 0 0)) / 3))) 0 4))) rfl dX8_request_107 ?_
    refine q_ti (y := nI ((rT ρ) 0 4)) rfl ?_
    refine lv_iconst (v := -1) hx hb dX8_request_110 (by decide) ?_
    refine q_iast hx hb hC.1 (hW.to rLV29) (hW.in rLV29) hS 1 rfl (vp_in_nI (n := ((rT ρ) 0 4)) (by omega) (by decide)) dX8_request_111 (fun H1 locs hat hsz hoq hS => ?_)
    rw [nI_clamp (n := ((rT ρ) 0 4)) (by omega)] at hat
    rw [r_m1] at hat
    rw [r_updm (qup (qup (qup (rT ρ) 208 ((rT ρ) 0 4) s0) 209 ((rT ρ) 0 4) r0) 192 ((rT ρ) 0 4) ((((rT ρ) 1 0) + 2) + ((qsum (fun l => qB ((rT ρ) 64 l = s0 ∧ (rT ρ) 69 l = 97 ∧ 0 ≤ (rT ρ) 65 l)) ((rT ρ) 0 0)) / 3))) 195 ((rT ρ) 0 4) 0] at hat
    have hW := hW.upR 195 ((rT ρ) 0 4) 0 rfl rLV29 (rLV29 (ρ := (qup (qup (qup (qup (rT ρ) 208 ((rT ρ) 0 4) s0) 209 ((rT ρ) 0 4) r0) 192 ((rT ρ) 0 4) ((((rT ρ) 1 0) + 2) + ((qsum (fun l => qB ((rT ρ) 64 l = s0 ∧ (rT ρ) 69 l = 97 ∧ 0 ≤ (rT ρ) 65 l)) ((rT ρ) 0 0)) / 3))) 195 ((rT ρ) 0 4) 0))) hat hoq
    refine lv_aload_n hx hb dX8_request_112 rfl (lv_at hl 0 rfl) ?_
    refine lv_dup hx hb dX8_request_113 rfl ?_
    refine q_get (C := RX8) (T := TX8) (N := 36) hx hb hts iRX8 hown hC.1 (hW.to rLV0) rfl 31 (by decide) (hts (.fieldLink RX8 181 "LogWeaveModel" "requests" "I") (List.mem_of_getElem? (i := 2) (by decide +kernel))) rfl (v := .int (nI ((qup (qup (qup (qup (rT ρ) 208 ((rT ρ) 0 4) s0) 209 ((rT ρ) 0 4) r0) 192 ((rT ρ) 0 4) ((((rT ρ) 1 0) + 2) + ((qsum (fun l => qB ((rT ρ) 64 l = s0 ∧ (rT ρ) 69 l = 97 ∧ 0 ≤ (rT ρ) 65 l)) ((rT ρ) 0 0)) / 3))) 195 ((rT ρ) 0 4) 0) 0 4))) rfl dX8_request_114 ?_
    refine q_ti (y := nI ((rT ρ) 0 4)) rfl ?_
    refine lv_iconst (v := nI 1) hx hb dX8_request_117 (by decide) ?_
    refine lv_iadd hx hb dX8_request_118 ?_
    refine q_ti (nI_add ((rT ρ) 0 4) 1) ?_
    refine q_put (C := RX8) (T := TX8) (N := 36) (ty := .int) (v := .int (nI (((rT ρ) 0 4) + 1))) hx hb hts iRX8 tyX8 tyX8_ok nmX8 hown hC.1 (hW.to rLV0) (hW.in rLV0) hS rfl 31 (by decide) (hts (.fieldLink RX8 181 "LogWeaveModel" "requests" "I") (List.mem_of_getElem? (i := 2) (by decide +kernel))) rfl rfl (by decide +kernel) rfl rfl (Nat.le_of_ble_eq_true rfl) dX8_request_119 (fun H1 locs hat hsz hoq hS => ?_)
    have hW := hW.upR 0 4 (((rT ρ) 0 4) + 1) rfl rLV0 ((rLV0 (ρ := (qup (qup (qup (qup (qup (rT ρ) 208 ((rT ρ) 0 4) s0) 209 ((rT ρ) 0 4) r0) 192 ((rT ρ) 0 4) ((((rT ρ) 1 0) + 2) + ((qsum (fun l => qB ((rT ρ) 64 l = s0 ∧ (rT ρ) 69 l = 97 ∧ 0 ≤ (rT ρ) 65 l)) ((rT ρ) 0 0)) / 3))) 195 ((rT ρ) 0 4) 0) 0 4 (((rT ρ) 0 4) + 1)))).trans (by rw [qup_s]; rfl)) hat hoq
    refine lv_aload_n hx hb dX8_request_122 rfl (lv_at hl 0 rfl) ?_
    refine q_get (C := RX8) (T := TX8) (N := 36) hx hb hts iRX8 hown hC.1 (hW.to rLV0) rfl 31 (by decide) (hts (.fieldLink RX8 181 "LogWeaveModel" "requests" "I") (List.mem_of_getElem? (i := 2) (by decide +kernel))) rfl (v := .int (nI ((qup (qup (qup (qup (qup (rT ρ) 208 ((rT ρ) 0 4) s0) 209 ((rT ρ) 0 4) r0) 192 ((rT ρ) 0 4) ((((rT ρ) 1 0) + 2) + ((qsum (fun l => qB ((rT ρ) 64 l = s0 ∧ (rT ρ) 69 l = 97 ∧ 0 ≤ (rT ρ) 65 l)) ((rT ρ) 0 0)) / 3))) 195 ((rT ρ) 0 4) 0) 0 4 (((rT ρ) 0 4) + 1)) 0 4))) rfl dX8_request_123 ?_
    refine q_ti (y := nI (((rT ρ) 0 4) + 1)) (by rw [qup_s]) ?_
    refine lv_iconst (v := nI 1) hx hb dX8_request_126 (by decide) ?_
    refine lv_isub hx hb dX8_request_127 ?_
    refine q_ti (y := nI (((rT ρ) 0 4) + 1) - 1) rfl ?_
    exact W.iret hx hb hr (fun t ht _ => ⟨by rw [nI_pred], by rw [ht]; exact hW, hS.F ht⟩) hS.2.2 dX8_request_128
  · skip
    refine lv_iconst (v := nI 1) hx hb dX8_request_42 (by decide) ?_
    refine lv_goto (tgt := 47) hx hb dX8_request_43 (by decide) ?_
    refine lv_iconst (v := nI 2) hx hb dX8_request_47 (by decide) ?_
    refine q_wv (va_runV (As := [.int (nI 1), .int (nI 2)]) (rest := []) ⟨hx, hb, hml, hown, hts⟩ (m_rfails1 l G A (rT ρ) bd hF 2 (by decide) (by decide) (rT_0 ρ)) (cwV 2 hts gX8_request_X8_fails rfl rfl rfl (by decide +kernel) ⟨Nat.le_of_ble_eq_true rfl, Nat.le_of_ble_eq_true rfl⟩) ⟨rR.blind, qrecv hC (hW.to rLV0) rfl, rR.pre hC hW⟩ rfl rfl hl.1 rfl (lv_room (Nat.le_of_ble_eq_true rfl)) dX8_request_48 ⟨Nat.le_of_ble_eq_true rfl, Nat.le_of_ble_eq_true rfl⟩) hS (fun _ h => h) (fun _ h => h) (fun H1 locs hW hz hk hS => ?_)
    refine q_eq0 (tgt := 56) hx hb (by decide) dX8_request_51 (by decide) (fun g6 => (by omega)) (fun g6 => ?_)
    refine lv_iconst (v := nI 0) hx hb dX8_request_54 (by decide) ?_
    omega
set_option maxHeartbeats 4000000 in
set_option maxRecDepth 100000 in
theorem m_raddAlert (l : Launch) (G : QG) (A : Nat → Prop) (ρ bd : QSt) (hF : rWF (rT ρ)) (s0 r0 P w0 g0 n0 h0 : Nat) (hs0 : s0 < 4) (hr0 : r0 < 5) (hP : P ≤ 3) (hw0 : w0 < 100) (hg0 : 1 ≤ g0 ∧ g0 ≤ 9) (hn0 : 1 ≤ n0 ∧ n0 ≤ 50) (hh0 : h0 ≤ 20) (hn2 : (rT ρ) 0 2 < 6) (hn3 : (rT ρ) 0 3 < 1300) : Met l yX8_addAlert wsX8_addAlert ({ frames := 3, cells := 0, slots := 0, locals := 68 } : Room) (rR G A ρ bd [.ref (bd 0 0), .int (nI s0), .int (nI r0), .int (nI P - 1), .int (nI w0), .int (nI g0), .int (nI n0), .int (nI h0)]) (qWV (some (.int (nI ((rT ρ) 0 2)))) (rW G A (rLk (rAl (rT ρ) s0 r0 P w0 g0 n0 h0) ((rT ρ) 0 2)) bd) A) 0 0 A := by
  refine Met.ofW (cc := cX8_addAlert) (maxL := 10) (ret := (some .int)) (by decide) rfl ?_
  intro p e s m args below meth c s₁ B hml hv
  obtain ⟨rfl, hC, hW⟩ := hv
  have hx := B.exec
  have hb := B.bytes
  have hr := B.returns
  have hts := atoms_spec (ws := wsX8_addAlert) B.pre
  have hown : s.vm.findClass RX8 = some m.cls := findClass_of_methodNamed B.named
  have hlocks := B.notSynchronized
  have hB := hF.1
  have hn := hF.n
  have hS : va_S A s.heap s.heap [] := va_S.rf
  have hl := lv_entry ([.ref (bd 0 0), .int (nI s0), .int (nI r0), .int (nI P - 1), .int (nI w0), .int (nI g0), .int (nI n0), .int (nI h0)]) (n := 10) (Nat.le_of_ble_eq_true rfl)
  rw [lg_entry_eq]
  generalize (lg_sl ([.ref (bd 0 0), .int (nI s0), .int (nI r0), .int (nI P - 1), .int (nI w0), .int (nI g0), .int (nI n0), .int (nI h0)]) ++ List.replicate (10 - (lg_sl ([.ref (bd 0 0), .int (nI s0), .int (nI r0), .int (nI P - 1), .int (nI w0), .int (nI g0), .int (nI n0), .int (nI h0)])).length) Slot.unset).toArray = ls at hl ⊢
  have hl : lv_has ls 10 [(0, .ref (bd 0 0)), (1, .int (nI s0)), (2, .int (nI r0)), (3, .int (nI P - 1)), (4, .int (nI w0)), (5, .int (nI g0)), (6, .int (nI n0)), (7, .int (nI h0))] := hl
  have iRX8 : ∀ w ∈ wsX80, w ∈ wsX8_addAlert := by decide +kernel
  refine lv_aload_n hx hb dX8_addAlert_0 rfl (lv_at hl 0 rfl) ?_
  refine lv_iconst (v := nI 0) hx hb dX8_addAlert_1 (by decide) ?_
  refine q_put (C := RX8) (T := TX8) (N := 36) (ty := .int) (v := .int (nI 0)) hx hb hts iRX8 tyX8 tyX8_ok nmX8 hown hC.1 (hW.to rLV0) (hW.in rLV0) hS rfl 0 (by decide) (hts (.fieldLink RX8 100 "LogWeaveModel" "thrown" "I") (List.mem_of_getElem? (i := 1) (by decide +kernel))) rfl rfl (by decide +kernel) rfl rfl (Nat.le_of_ble_eq_true rfl) dX8_addAlert_2 (fun H1 locs hat hsz hoq hS => ?_)
  have hW := hW.upR 2 0 0 rfl rLV0 ((rLV0 (ρ := (qup ρ 2 0 0))).trans (by rw [qup_s]; rfl)) hat hoq
  have hW : rW G A (rT ρ) bd _ := hW
  refine lv_iload_n hx hb dX8_addAlert_5 rfl (lv_at hl 1 rfl) ?_
  refine q_v (va_runS (As := [.int (nI s0)]) (rest := []) ⟨hx, hb, hml, hown, hts⟩ (m_risSource l (nI s0)) (va_cwS 1 hts gX8_addAlert_X8_isSource rfl rfl rfl (by decide +kernel) ⟨Nat.le_of_ble_eq_true rfl, Nat.le_of_ble_eq_true rfl⟩) ⟨qU.blind, qU.pre⟩ rfl rfl hl.1 rfl (lv_room (Nat.le_of_ble_eq_true rfl)) dX8_addAlert_6 ⟨Nat.le_of_ble_eq_true rfl, Nat.le_of_ble_eq_true rfl⟩) hS (fun _ h => h.elim) (fun locs hS => ?_)
  refine q_ti (y := nI 1) (by rw [qB_t ⟨nI_le (by omega) (by omega), nI_le (by omega) (by decide)⟩]) ?_
  refine q_eq0 (tgt := 76) hx hb (by decide) dX8_addAlert_9 (by decide) (fun g1 => (by omega)) (fun g1 => ?_)
  refine lv_iload_n hx hb dX8_addAlert_12 rfl (lv_at hl 2 rfl) ?_
  refine q_v (va_runS (As := [.int (nI r0)]) (rest := []) ⟨hx, hb, hml, hown, hts⟩ (m_risRank l (nI r0)) (va_cwS 1 hts gX8_addAlert_X8_isRank rfl rfl rfl (by decide +kernel) ⟨Nat.le_of_ble_eq_true rfl, Nat.le_of_ble_eq_true rfl⟩) ⟨qU.blind, qU.pre⟩ rfl rfl hl.1 rfl (lv_room (Nat.le_of_ble_eq_true rfl)) dX8_addAlert_13 ⟨Nat.le_of_ble_eq_true rfl, Nat.le_of_ble_eq_true rfl⟩) hS (fun _ h => h.elim) (fun locs hS => ?_)
  refine q_ti (y := nI 1) (by rw [qB_t ⟨nI_le (by omega) (by omega), nI_le (by omega) (by decide)⟩]) ?_
  refine q_eq0 (tgt := 76) hx hb (by decide) dX8_addAlert_16 (by decide) (fun g2 => (by omega)) (fun g2 => ?_)
  refine lv_iload_n hx hb dX8_addAlert_19 rfl (lv_at hl 3 rfl) ?_
  refine lv_iconst (v := -1) hx hb dX8_addAlert_20 (by decide) ?_
  refine lv_iconst (v := nI 2) hx hb dX8_addAlert_21 (by decide) ?_
  refine q_v (va_runS (As := [.int (nI P - 1), .int (-1), .int (nI 2)]) (rest := []) ⟨hx, hb, hml, hown, hts⟩ (m_rin l (nI P - 1) (-1) (nI 2)) (va_cwS 3 hts gX8_addAlert_X8_in rfl rfl rfl (by decide +kernel) ⟨Nat.le_of_ble_eq_true rfl, Nat.le_of_ble_eq_true rfl⟩) ⟨qU.blind, qU.pre⟩ rfl rfl hl.1 rfl (lv_room (Nat.le_of_ble_eq_true rfl)) dX8_addAlert_22 ⟨Nat.le_of_ble_eq_true rfl, Nat.le_of_ble_eq_true rfl⟩) hS (fun _ h => h.elim) (fun locs hS => ?_)
  refine q_ti (y := nI 1) (by rw [r_inp (by omega)]) ?_
  refine q_eq0 (tgt := 76) hx hb (by decide) dX8_addAlert_25 (by decide) (fun g3 => (by omega)) (fun g3 => ?_)
  refine lv_iload hx hb dX8_addAlert_28 (lv_at hl 4 rfl) ?_
  refine lv_iconst (v := nI 0) hx hb dX8_addAlert_30 (by decide) ?_
  refine lv_bipush (v := nI 99) hx hb dX8_addAlert_31 (by decide) ?_
  refine q_v (va_runS (As := [.int (nI w0), .int (nI 0), .int (nI 99)]) (rest := []) ⟨hx, hb, hml, hown, hts⟩ (m_rin l (nI w0) (nI 0) (nI 99)) (va_cwS 3 hts gX8_addAlert_X8_in rfl rfl rfl (by decide +kernel) ⟨Nat.le_of_ble_eq_true rfl, Nat.le_of_ble_eq_true rfl⟩) ⟨qU.blind, qU.pre⟩ rfl rfl hl.1 rfl (lv_room (Nat.le_of_ble_eq_true rfl)) dX8_addAlert_33 ⟨Nat.le_of_ble_eq_true rfl, Nat.le_of_ble_eq_true rfl⟩) hS (fun _ h => h.elim) (fun locs hS => ?_)
  refine q_ti (y := nI 1) (by rw [qB_t ⟨nI_le (by omega) (by omega), nI_le (by omega) (by decide)⟩]) ?_
  refine q_eq0 (tgt := 76) hx hb (by decide) dX8_addAlert_36 (by decide) (fun g4 => (by omega)) (fun g4 => ?_)
  refine lv_iload hx hb dX8_addAlert_39 (lv_at hl 5 rfl) ?_
  refine lv_iconst (v := nI 1) hx hb dX8_addAlert_41 (by decide) ?_
  refine lv_bipush (v := nI 9) hx hb dX8_addAlert_42 (by decide) ?_
  refine q_v (va_runS (As := [.int (nI g0), .int (nI 1), .int (nI 9)]) (rest := []) ⟨hx, hb, hml, hown, hts⟩ (m_rin l (nI g0) (nI 1) (nI 9)) (va_cwS 3 hts gX8_addAlert_X8_in rfl rfl rfl (by decide +kernel) ⟨Nat.le_of_ble_eq_true rfl, Nat.le_of_ble_eq_true rfl⟩) ⟨qU.blind, qU.pre⟩ rfl rfl hl.1 rfl (lv_room (Nat.le_of_ble_eq_true rfl)) dX8_addAlert_44 ⟨Nat.le_of_ble_eq_true rfl, Nat.le_of_ble_eq_true rfl⟩) hS (fun _ h => h.elim) (fun locs hS => ?_)
  refine q_ti (y := nI 1) (by rw [qB_t ⟨nI_le (by omega) (by omega), nI_le (by omega) (by decide)⟩]) ?_
  refine q_eq0 (tgt := 76) hx hb (by decide) dX8_addAlert_47 (by decide) (fun g5 => (by omega)) (fun g5 => ?_)
  refine lv_iload hx hb dX8_addAlert_50 (lv_at hl 6 rfl) ?_
  refine lv_iconst (v := nI 1) hx hb dX8_addAlert_52 (by decide) ?_
  refine lv_bipush (v := nI 50) hx hb dX8_addAlert_53 (by decide) ?_
  refine q_v (va_runS (As := [.int (nI n0), .int (nI 1), .int (nI 50)]) (rest := []) ⟨hx, hb, hml, hown, hts⟩ (m_rin l (nI n0) (nI 1) (nI 50)) (va_cwS 3 hts gX8_addAlert_X8_in rfl rfl rfl (by decide +kernel) ⟨Nat.le_of_ble_eq_true rfl, Nat.le_of_ble_eq_true rfl⟩) ⟨qU.blind, qU.pre⟩ rfl rfl hl.1 rfl (lv_room (Nat.le_of_ble_eq_true rfl)) dX8_addAlert_55 ⟨Nat.le_of_ble_eq_true rfl, Nat.le_of_ble_eq_true rfl⟩) hS (fun _ h => h.elim) (fun locs hS => ?_)
  refine q_ti (y := nI 1) (by rw [qB_t ⟨nI_le (by omega) (by omega), nI_le (by omega) (by decide)⟩]) ?_
  refine q_eq0 (tgt := 76) hx hb (by decide) dX8_addAlert_58 (by decide) (fun g6 => (by omega)) (fun g6 => ?_)
  refine lv_iload hx hb dX8_addAlert_61 (lv_at hl 7 rfl) ?_
  refine lv_iconst (v := nI 0) hx hb dX8_addAlert_63 (by decide) ?_
  refine lv_bipush (v := nI 20) hx hb dX8_addAlert_64 (by decide) ?_
  refine q_v (va_runS (As := [.int (nI h0), .int (nI 0), .int (nI 20)]) (rest := []) ⟨hx, hb, hml, hown, hts⟩ (m_rin l (nI h0) (nI 0) (nI 20)) (va_cwS 3 hts gX8_addAlert_X8_in rfl rfl rfl (by decide +kernel) ⟨Nat.le_of_ble_eq_true rfl, Nat.le_of_ble_eq_true rfl⟩) ⟨qU.blind, qU.pre⟩ rfl rfl hl.1 rfl (lv_room (Nat.le_of_ble_eq_true rfl)) dX8_addAlert_66 ⟨Nat.le_of_ble_eq_true rfl, Nat.le_of_ble_eq_true rfl⟩) hS (fun _ h => h.elim) (fun locs hS => ?_)
  refine q_ti (y := nI 1) (by rw [qB_t ⟨nI_le (by omega) (by omega), nI_le (by omega) (by decide)⟩]) ?_
  refine q_eq0 (tgt := 76) hx hb (by decide) dX8_addAlert_69 (by decide) (fun g7 => (by omega)) (fun g7 => ?_)
  refine lv_iconst (v := nI 1) hx hb dX8_addAlert_72 (by decide) ?_
  refine lv_goto (tgt := 77) hx hb dX8_addAlert_73 (by decide) ?_
  refine lv_istore (lv' := [(8, .int (nI 1)), (0, .ref (bd 0 0)), (1, .int (nI s0)), (2, .int (nI r0)), (3, .int (nI P - 1)), (4, .int (nI w0)), (5, .int (nI g0)), (6, .int (nI n0)), (7, .int (nI h0))]) hx hb dX8_addAlert_77 hl (by decide) rfl (fun ls hl => ?_)
  refine lv_aload_n hx hb dX8_addAlert_79 rfl (lv_at hl 1 rfl) ?_
  refine lv_iload hx hb dX8_addAlert_80 (lv_at hl 0 rfl) ?_
  refine q_ne0 (tgt := 89) hx hb (by decide) dX8_addAlert_82 (by decide) (fun g8 => ?_) (fun g8 => (by omega))
  refine lv_iconst (v := nI 0) hx hb dX8_addAlert_89 (by decide) ?_
  refine lv_iconst (v := nI 1) hx hb dX8_addAlert_90 (by decide) ?_
  refine q_v (va_runV (As := [.int (nI 0), .int (nI 1)]) (rest := []) ⟨hx, hb, hml, hown, hts⟩ (m_rfails0 l G A (rT ρ) bd hF 1 (rT_0 ρ)) (cwV 2 hts gX8_addAlert_X8_fails rfl rfl rfl (by decide +kernel) ⟨Nat.le_of_ble_eq_true rfl, Nat.le_of_ble_eq_true rfl⟩) ⟨rR.blind, qrecv hC (hW.to rLV0) rfl, rR.pre hC hW⟩ rfl rfl hl.1 rfl (lv_room (Nat.le_of_ble_eq_true rfl)) dX8_addAlert_91 ⟨Nat.le_of_ble_eq_true rfl, Nat.le_of_ble_eq_true rfl⟩) hS (fun _ h => h.elim) (fun locs hS => ?_)
  refine q_ne0 (tgt := 119) hx hb (by decide) dX8_addAlert_94 (by decide) (fun g9 => (by omega)) (fun g9 => ?_)
  refine lv_aload_n hx hb dX8_addAlert_97 rfl (lv_at hl 1 rfl) ?_
  refine lv_aload_n hx hb dX8_addAlert_98 rfl (lv_at hl 1 rfl) ?_
  refine q_get (C := RX8) (T := TX8) (N := 36) hx hb hts iRX8 hown hC.1 (hW.to rLV0) rfl 14 (by decide) (hts (.fieldLink RX8 114 "LogWeaveModel" "alerts" "I") (List.mem_of_getElem? (i := 2) (by decide +kernel))) rfl (v := .int (nI ((rT ρ) 0 2))) rfl dX8_addAlert_99 ?_
  refine q_ti (y := nI ((rT ρ) 0 2)) rfl ?_
  refine lv_bipush (v := nI 6) hx hb dX8_addAlert_102 (by decide) ?_
  refine q_ne (tgt := 111) hx hb (q31 (hB _ _)) (by decide) dX8_addAlert_104 (by decide) (fun g10 => ?_) (fun g10 => ?_)
  · skip
    refine lv_iconst (v := nI 0) hx hb dX8_addAlert_111 (by decide) ?_
    refine lv_iconst (v := nI 2) hx hb dX8_addAlert_112 (by decide) ?_
    refine q_v (va_runV (As := [.int (nI 0), .int (nI 2)]) (rest := []) ⟨hx, hb, hml, hown, hts⟩ (m_rfails0 l G A (rT ρ) bd hF 2 (rT_0 ρ)) (cwV 2 hts gX8_addAlert_X8_fails rfl rfl rfl (by decide +kernel) ⟨Nat.le_of_ble_eq_true rfl, Nat.le_of_ble_eq_true rfl⟩) ⟨rR.blind, qrecv hC (hW.to rLV0) rfl, rR.pre hC hW⟩ rfl rfl hl.1 rfl (lv_room (Nat.le_of_ble_eq_true rfl)) dX8_addAlert_113 ⟨Nat.le_of_ble_eq_true rfl, Nat.le_of_ble_eq_true rfl⟩) hS (fun _ h => h.elim) (fun locs hS => ?_)
    refine q_eq0 (tgt := 121) hx hb (by decide) dX8_addAlert_116 (by decide) (fun g11 => ?_) (fun g11 => (by omega))
    refine lv_aload_n hx hb dX8_addAlert_121 rfl (lv_at hl 1 rfl) ?_
    refine q_get (C := RX8) (T := TX8) (N := 36) hx hb hts iRX8 hown hC.1 (hW.to rLV0) rfl 14 (by decide) (hts (.fieldLink RX8 114 "LogWeaveModel" "alerts" "I") (List.mem_of_getElem? (i := 2) (by decide +kernel))) rfl (v := .int (nI ((rT ρ) 0 2))) rfl dX8_addAlert_122 ?_
    refine q_ti (y := nI ((rT ρ) 0 2)) rfl ?_
    refine lv_istore (lv' := [(9, .int (nI ((rT ρ) 0 2))), (8, .int (nI 1)), (0, .ref (bd 0 0)), (1, .int (nI s0)), (2, .int (nI r0)), (3, .int (nI P - 1)), (4, .int (nI w0)), (5, .int (nI g0)), (6, .int (nI n0)), (7, .int (nI h0))]) hx hb dX8_addAlert_125 hl (by decide) rfl (fun ls hl => ?_)
    refine lv_aload_n hx hb dX8_addAlert_127 rfl (lv_at hl 2 rfl) ?_
    refine q_get (C := RX8) (T := TX8) (N := 36) hx hb hts iRX8 hown hC.1 (hW.to rLV0) rfl 15 (by decide) (hts (.fieldLink RX8 42 "LogWeaveModel" "at" "[I") (List.mem_of_getElem? (i := 3) (by decide +kernel))) rfl (v := .ref (bd 11 0)) rfl dX8_addAlert_128 ?_
    refine lv_iload hx hb dX8_addAlert_131 (lv_at hl 0 rfl) ?_
    refine lv_iload_n hx hb dX8_addAlert_133 rfl (lv_at hl 3 rfl) ?_
    refine q_iast hx hb hC.1 (hW.to rLV11) (hW.in rLV11) hS 1 rfl (vp_in_nI (n := ((rT ρ) 0 2)) (by omega) (by decide)) dX8_addAlert_134 (fun H1 locs hat hsz hoq hS => ?_)
    rw [nI_clamp (n := ((rT ρ) 0 2)) (by omega)] at hat
    rw [r_upd (rT ρ) 144 ((rT ρ) 0 2) s0] at hat
    have hW := hW.upR 144 ((rT ρ) 0 2) s0 rfl rLV11 (rLV11 (ρ := (qup (rT ρ) 144 ((rT ρ) 0 2) s0))) hat hoq
    refine lv_aload_n hx hb dX8_addAlert_135 rfl (lv_at hl 2 rfl) ?_
    refine q_get (C := RX8) (T := TX8) (N := 36) hx hb hts iRX8 hown hC.1 (hW.to rLV0) rfl 16 (by decide) (hts (.fieldLink RX8 45 "LogWeaveModel" "least" "[I") (List.mem_of_getElem? (i := 4) (by decide +kernel))) rfl (v := .ref (bd 12 0)) rfl dX8_addAlert_136 ?_
    refine lv_iload hx hb dX8_addAlert_139 (lv_at hl 0 rfl) ?_
    refine lv_iload_n hx hb dX8_addAlert_141 rfl (lv_at hl 4 rfl) ?_
    refine q_iast hx hb hC.1 (hW.to rLV12) (hW.in rLV12) hS 1 rfl (vp_in_nI (n := ((rT ρ) 0 2)) (by omega) (by decide)) dX8_addAlert_142 (fun H1 locs hat hsz hoq hS => ?_)
    rw [nI_clamp (n := ((rT ρ) 0 2)) (by omega)] at hat
    rw [r_upd (qup (rT ρ) 144 ((rT ρ) 0 2) s0) 145 ((rT ρ) 0 2) r0] at hat
    have hW := hW.upR 145 ((rT ρ) 0 2) r0 rfl rLV12 (rLV12 (ρ := (qup (qup (rT ρ) 144 ((rT ρ) 0 2) s0) 145 ((rT ρ) 0 2) r0))) hat hoq
    refine lv_aload_n hx hb dX8_addAlert_143 rfl (lv_at hl 2 rfl) ?_
    refine q_get (C := RX8) (T := TX8) (N := 36) hx hb hts iRX8 hown hC.1 (hW.to rLV0) rfl 17 (by decide) (hts (.fieldLink RX8 48 "LogWeaveModel" "place" "[I") (List.mem_of_getElem? (i := 5) (by decide +kernel))) rfl (v := .ref (bd 13 0)) rfl dX8_addAlert_144 ?_
    refine lv_iload hx hb dX8_addAlert_147 (lv_at hl 0 rfl) ?_
    refine lv_iload_n hx hb dX8_addAlert_149 rfl (lv_at hl 5 rfl) ?_
    refine q_iast hx hb hC.1 (hW.to rLV13) (hW.in rLV13) hS 1 rfl (vp_in_nI (n := ((rT ρ) 0 2)) (by omega) (by decide)) dX8_addAlert_150 (fun H1 locs hat hsz hoq hS => ?_)
    rw [nI_clamp (n := ((rT ρ) 0 2)) (by omega)] at hat
    rw [r_updm (qup (qup (rT ρ) 144 ((rT ρ) 0 2) s0) 145 ((rT ρ) 0 2) r0) 146 ((rT ρ) 0 2) P] at hat
    have hW := hW.upR 146 ((rT ρ) 0 2) P rfl rLV13 (rLV13 (ρ := (qup (qup (qup (rT ρ) 144 ((rT ρ) 0 2) s0) 145 ((rT ρ) 0 2) r0) 146 ((rT ρ) 0 2) P))) hat hoq
    refine lv_aload_n hx hb dX8_addAlert_151 rfl (lv_at hl 2 rfl) ?_
    refine q_get (C := RX8) (T := TX8) (N := 36) hx hb hts iRX8 hown hC.1 (hW.to rLV0) rfl 18 (by decide) (hts (.fieldLink RX8 51 "LogWeaveModel" "wanted" "[I") (List.mem_of_getElem? (i := 6) (by decide +kernel))) rfl (v := .ref (bd 14 0)) rfl dX8_addAlert_152 ?_
    refine lv_iload hx hb dX8_addAlert_155 (lv_at hl 0 rfl) ?_
    refine lv_iload hx hb dX8_addAlert_157 (lv_at hl 6 rfl) ?_
    refine q_iast hx hb hC.1 (hW.to rLV14) (hW.in rLV14) hS 1 rfl (vp_in_nI (n := ((rT ρ) 0 2)) (by omega) (by decide)) dX8_addAlert_159 (fun H1 locs hat hsz hoq hS => ?_)
    rw [nI_clamp (n := ((rT ρ) 0 2)) (by omega)] at hat
    rw [r_upd (qup (qup (qup (rT ρ) 144 ((rT ρ) 0 2) s0) 145 ((rT ρ) 0 2) r0) 146 ((rT ρ) 0 2) P) 147 ((rT ρ) 0 2) w0] at hat
    have hW := hW.upR 147 ((rT ρ) 0 2) w0 rfl rLV14 (rLV14 (ρ := (qup (qup (qup (qup (rT ρ) 144 ((rT ρ) 0 2) s0) 145 ((rT ρ) 0 2) r0) 146 ((rT ρ) 0 2) P) 147 ((rT ρ) 0 2) w0))) hat hoq
    refine lv_aload_n hx hb dX8_addAlert_160 rfl (lv_at hl 2 rfl) ?_
    refine q_get (C := RX8) (T := TX8) (N := 36) hx hb hts iRX8 hown hC.1 (hW.to rLV0) rfl 19 (by decide) (hts (.fieldLink RX8 54 "LogWeaveModel" "goal" "[I") (List.mem_of_getElem? (i := 7) (by decide +kernel))) rfl (v := .ref (bd 15 0)) rfl dX8_addAlert_161 ?_
    refine lv_iload hx hb dX8_addAlert_164 (lv_at hl 0 rfl) ?_
    refine lv_iload hx hb dX8_addAlert_166 (lv_at hl 7 rfl) ?_
    refine q_iast hx hb hC.1 (hW.to rLV15) (hW.in rLV15) hS 1 rfl (vp_in_nI (n := ((rT ρ) 0 2)) (by omega) (by decide)) dX8_addAlert_168 (fun H1 locs hat hsz hoq hS => ?_)
    rw [nI_clamp (n := ((rT ρ) 0 2)) (by omega)] at hat
    rw [r_upd (qup (qup (qup (qup (rT ρ) 144 ((rT ρ) 0 2) s0) 145 ((rT ρ) 0 2) r0) 146 ((rT ρ) 0 2) P) 147 ((rT ρ) 0 2) w0) 128 ((rT ρ) 0 2) g0] at hat
    have hW := hW.upR 128 ((rT ρ) 0 2) g0 rfl rLV15 (rLV15 (ρ := (qup (qup (qup (qup (qup (rT ρ) 144 ((rT ρ) 0 2) s0) 145 ((rT ρ) 0 2) r0) 146 ((rT ρ) 0 2) P) 147 ((rT ρ) 0 2) w0) 128 ((rT ρ) 0 2) g0))) hat hoq
    refine lv_aload_n hx hb dX8_addAlert_169 rfl (lv_at hl 2 rfl) ?_
    refine q_get (C := RX8) (T := TX8) (N := 36) hx hb hts iRX8 hown hC.1 (hW.to rLV0) rfl 20 (by decide) (hts (.fieldLink RX8 57 "LogWeaveModel" "window" "[I") (List.mem_of_getElem? (i := 8) (by decide +kernel))) rfl (v := .ref (bd 16 0)) rfl dX8_addAlert_170 ?_
    refine lv_iload hx hb dX8_addAlert_173 (lv_at hl 0 rfl) ?_
    refine lv_iload hx hb dX8_addAlert_175 (lv_at hl 8 rfl) ?_
    refine q_iast hx hb hC.1 (hW.to rLV16) (hW.in rLV16) hS 1 rfl (vp_in_nI (n := ((rT ρ) 0 2)) (by omega) (by decide)) dX8_addAlert_177 (fun H1 locs hat hsz hoq hS => ?_)
    rw [nI_clamp (n := ((rT ρ) 0 2)) (by omega)] at hat
    rw [r_upd (qup (qup (qup (qup (qup (rT ρ) 144 ((rT ρ) 0 2) s0) 145 ((rT ρ) 0 2) r0) 146 ((rT ρ) 0 2) P) 147 ((rT ρ) 0 2) w0) 128 ((rT ρ) 0 2) g0) 129 ((rT ρ) 0 2) n0] at hat
    have hW := hW.upR 129 ((rT ρ) 0 2) n0 rfl rLV16 (rLV16 (ρ := (qup (qup (qup (qup (qup (qup (rT ρ) 144 ((rT ρ) 0 2) s0) 145 ((rT ρ) 0 2) r0) 146 ((rT ρ) 0 2) P) 147 ((rT ρ) 0 2) w0) 128 ((rT ρ) 0 2) g0) 129 ((rT ρ) 0 2) n0))) hat hoq
    refine lv_aload_n hx hb dX8_addAlert_178 rfl (lv_at hl 2 rfl) ?_
    refine q_get (C := RX8) (T := TX8) (N := 36) hx hb hts iRX8 hown hC.1 (hW.to rLV0) rfl 21 (by decide) (hts (.fieldLink RX8 60 "LogWeaveModel" "hold" "[I") (List.mem_of_getElem? (i := 9) (by decide +kernel))) rfl (v := .ref (bd 17 0)) rfl dX8_addAlert_179 ?_
    refine lv_iload hx hb dX8_addAlert_182 (lv_at hl 0 rfl) ?_
    refine lv_iload hx hb dX8_addAlert_184 (lv_at hl 9 rfl) ?_
    refine q_iast hx hb hC.1 (hW.to rLV17) (hW.in rLV17) hS 1 rfl (vp_in_nI (n := ((rT ρ) 0 2)) (by omega) (by decide)) dX8_addAlert_186 (fun H1 locs hat hsz hoq hS => ?_)
    rw [nI_clamp (n := ((rT ρ) 0 2)) (by omega)] at hat
    rw [r_upd (qup (qup (qup (qup (qup (qup (rT ρ) 144 ((rT ρ) 0 2) s0) 145 ((rT ρ) 0 2) r0) 146 ((rT ρ) 0 2) P) 147 ((rT ρ) 0 2) w0) 128 ((rT ρ) 0 2) g0) 129 ((rT ρ) 0 2) n0) 130 ((rT ρ) 0 2) h0] at hat
    have hW := hW.upR 130 ((rT ρ) 0 2) h0 rfl rLV17 (rLV17 (ρ := (qup (qup (qup (qup (qup (qup (qup (rT ρ) 144 ((rT ρ) 0 2) s0) 145 ((rT ρ) 0 2) r0) 146 ((rT ρ) 0 2) P) 147 ((rT ρ) 0 2) w0) 128 ((rT ρ) 0 2) g0) 129 ((rT ρ) 0 2) n0) 130 ((rT ρ) 0 2) h0))) hat hoq
    refine lv_aload_n hx hb dX8_addAlert_187 rfl (lv_at hl 2 rfl) ?_
    refine q_get (C := RX8) (T := TX8) (N := 36) hx hb hts iRX8 hown hC.1 (hW.to rLV0) rfl 22 (by decide) (hts (.fieldLink RX8 63 "LogWeaveModel" "alert" "[C") (List.mem_of_getElem? (i := 10) (by decide +kernel))) rfl (v := .ref (bd 18 0)) rfl dX8_addAlert_188 ?_
    refine lv_iload hx hb dX8_addAlert_191 (lv_at hl 0 rfl) ?_
    refine lv_bipush (v := nI 113) hx hb dX8_addAlert_193 (by decide) ?_
    refine q_cast hx hb hC.1 (hW.to rLV18) (hW.in rLV18) hS 3 rfl (vp_in_nI (n := ((rT ρ) 0 2)) (by omega) (by decide)) dX8_addAlert_195 (fun H1 locs hat hsz hoq hS => ?_)
    rw [nI_clamp (n := ((rT ρ) 0 2)) (by omega)] at hat
    rw [show vp_nar .char (nI 113) = nI 113 from by decide] at hat
    rw [r_upd (qup (qup (qup (qup (qup (qup (qup (rT ρ) 144 ((rT ρ) 0 2) s0) 145 ((rT ρ) 0 2) r0) 146 ((rT ρ) 0 2) P) 147 ((rT ρ) 0 2) w0) 128 ((rT ρ) 0 2) g0) 129 ((rT ρ) 0 2) n0) 130 ((rT ρ) 0 2) h0) 131 ((rT ρ) 0 2) 113] at hat
    have hW := hW.upR 131 ((rT ρ) 0 2) 113 rfl rLV18 (rLV18 (ρ := (qup (qup (qup (qup (qup (qup (qup (qup (rT ρ) 144 ((rT ρ) 0 2) s0) 145 ((rT ρ) 0 2) r0) 146 ((rT ρ) 0 2) P) 147 ((rT ρ) 0 2) w0) 128 ((rT ρ) 0 2) g0) 129 ((rT ρ) 0 2) n0) 130 ((rT ρ) 0 2) h0) 131 ((rT ρ) 0 2) 113))) hat hoq
    refine lv_aload_n hx hb dX8_addAlert_196 rfl (lv_at hl 2 rfl) ?_
    refine lv_dup hx hb dX8_addAlert_197 rfl ?_
    refine q_get (C := RX8) (T := TX8) (N := 36) hx hb hts iRX8 hown hC.1 (hW.to rLV0) rfl 14 (by decide) (hts (.fieldLink RX8 114 "LogWeaveModel" "alerts" "I") (List.mem_of_getElem? (i := 2) (by decide +kernel))) rfl (v := .int (nI ((qup (qup (qup (qup (qup (qup (qup (qup (rT ρ) 144 ((rT ρ) 0 2) s0) 145 ((rT ρ) 0 2) r0) 146 ((rT ρ) 0 2) P) 147 ((rT ρ) 0 2) w0) 128 ((rT ρ) 0 2) g0) 129 ((rT ρ) 0 2) n0) 130 ((rT ρ) 0 2) h0) 131 ((rT ρ) 0 2) 113) 0 2))) rfl dX8_addAlert_198 ?_
    refine q_ti (y := nI ((rT ρ) 0 2)) rfl ?_
    refine lv_iconst (v := nI 1) hx hb dX8_addAlert_201 (by decide) ?_
    refine lv_iadd hx hb dX8_addAlert_202 ?_
    refine q_ti (nI_add ((rT ρ) 0 2) 1) ?_
    refine q_put (C := RX8) (T := TX8) (N := 36) (ty := .int) (v := .int (nI (((rT ρ) 0 2) + 1))) hx hb hts iRX8 tyX8 tyX8_ok nmX8 hown hC.1 (hW.to rLV0) (hW.in rLV0) hS rfl 14 (by decide) (hts (.fieldLink RX8 114 "LogWeaveModel" "alerts" "I") (List.mem_of_getElem? (i := 2) (by decide +kernel))) rfl rfl (by decide +kernel) rfl rfl (Nat.le_of_ble_eq_true rfl) dX8_addAlert_203 (fun H1 locs hat hsz hoq hS => ?_)
    have hW := hW.upR 0 2 (((rT ρ) 0 2) + 1) rfl rLV0 ((rLV0 (ρ := (qup (qup (qup (qup (qup (qup (qup (qup (qup (rT ρ) 144 ((rT ρ) 0 2) s0) 145 ((rT ρ) 0 2) r0) 146 ((rT ρ) 0 2) P) 147 ((rT ρ) 0 2) w0) 128 ((rT ρ) 0 2) g0) 129 ((rT ρ) 0 2) n0) 130 ((rT ρ) 0 2) h0) 131 ((rT ρ) 0 2) 113) 0 2 (((rT ρ) 0 2) + 1)))).trans (by rw [qup_s]; rfl)) hat hoq
    refine lv_aload_n hx hb dX8_addAlert_206 rfl (lv_at hl 2 rfl) ?_
    refine lv_iload hx hb dX8_addAlert_207 (lv_at hl 0 rfl) ?_
    have hW : rW G A (rAl (rT ρ) s0 r0 P w0 g0 n0 h0) bd _ := hW
    have hF2 := rAl_wf hF hs0 hr0 hP hw0 hg0 hn0 hh0 hn2
    refine q_wn (va_runV (As := [.int (nI ((rT ρ) 0 2))]) (rest := []) ⟨hx, hb, hml, hown, hts⟩ (m_rlook l G A (rAl (rT ρ) s0 r0 P w0 g0 n0 h0) bd hF2 ((rT ρ) 0 2) (Nat.lt_succ_self _) (fun _ _ => hn3)) (cwV 1 hts gX8_addAlert_X8_look rfl rfl rfl (by decide +kernel) ⟨Nat.le_of_ble_eq_true rfl, Nat.le_of_ble_eq_true rfl⟩) ⟨rR.blind, qrecv hC (hW.to rLV0) rfl, rR.pre hC hW⟩ rfl rfl hl.1 rfl (lv_room (Nat.le_of_ble_eq_true rfl)) dX8_addAlert_209 ⟨Nat.le_of_ble_eq_true rfl, Nat.le_of_ble_eq_true rfl⟩) hS (fun _ h => h) (fun _ h => h) (fun H1 locs hW hz hk hS => ?_)
    refine lv_iload hx hb dX8_addAlert_212 (lv_at hl 0 rfl) ?_
    exact W.iret hx hb hr (fun t ht _ => ⟨rfl, by rw [ht]; exact hW, hS.F ht⟩) hS.2.2 dX8_addAlert_214
  · skip
    refine lv_iconst (v := nI 1) hx hb dX8_addAlert_107 (by decide) ?_
    refine lv_goto (tgt := 112) hx hb dX8_addAlert_108 (by decide) ?_
    refine lv_iconst (v := nI 2) hx hb dX8_addAlert_112 (by decide) ?_
    refine q_wv (va_runV (As := [.int (nI 1), .int (nI 2)]) (rest := []) ⟨hx, hb, hml, hown, hts⟩ (m_rfails1 l G A (rT ρ) bd hF 2 (by decide) (by decide) (rT_0 ρ)) (cwV 2 hts gX8_addAlert_X8_fails rfl rfl rfl (by decide +kernel) ⟨Nat.le_of_ble_eq_true rfl, Nat.le_of_ble_eq_true rfl⟩) ⟨rR.blind, qrecv hC (hW.to rLV0) rfl, rR.pre hC hW⟩ rfl rfl hl.1 rfl (lv_room (Nat.le_of_ble_eq_true rfl)) dX8_addAlert_113 ⟨Nat.le_of_ble_eq_true rfl, Nat.le_of_ble_eq_true rfl⟩) hS (fun _ h => h) (fun _ h => h) (fun H1 locs hW hz hk hS => ?_)
    refine q_eq0 (tgt := 121) hx hb (by decide) dX8_addAlert_116 (by decide) (fun g12 => (by omega)) (fun g12 => ?_)
    refine lv_iconst (v := nI 0) hx hb dX8_addAlert_119 (by decide) ?_
    omega
set_option maxHeartbeats 4000000 in
set_option maxRecDepth 100000 in
theorem m_rrelease (l : Launch) (G : QG) (A : Nat → Prop) (ρ bd : QSt) (hF : rWF (rT ρ)) (f : Nat) (N : Nat → Nat) (hf : f < (rT ρ) 0 3) (h0 : (rT ρ) 162 f = 0) (h1 : (rT ρ) 131 ((rT ρ) 160 f) = 113 ∨ (rT ρ) 135 ((rT ρ) 160 f) ≠ f) (hN : ∀ s0, s0 < 4 → rDrp (rDa (qup (rT ρ) 162 f 1) N s0) s0 (N s0)) : Met l yX8_release wsX8_release ({ frames := 4, cells := 0, slots := 0, locals := 92 } : Room) (rR G A ρ bd [.ref (bd 0 0), .int (nI f)]) (qWV (some (.int (nI (N 0 + N 1 + N 2 + N 3)))) (rW G A (rDa (qup (rT ρ) 162 f 1) N 4) bd) A) 0 0 A := by
  refine Met.ofW (cc := cX8_release) (maxL := 2) (ret := (some .int)) (by decide) rfl ?_
  intro p e s m args below meth c s₁ B hml hv
  obtain ⟨rfl, hC, hW⟩ := hv
  have hx := B.exec
  have hb := B.bytes
  have hr := B.returns
  have hts := atoms_spec (ws := wsX8_release) B.pre
  have hown : s.vm.findClass RX8 = some m.cls := findClass_of_methodNamed B.named
  have hlocks := B.notSynchronized
  have hB := hF.1
  have hn := hF.n
  have hS : va_S A s.heap s.heap [] := va_S.rf
  have hl := lv_entry ([.ref (bd 0 0), .int (nI f)]) (n := 2) (Nat.le_of_ble_eq_true rfl)
  rw [lg_entry_eq]
  generalize (lg_sl ([.ref (bd 0 0), .int (nI f)]) ++ List.replicate (2 - (lg_sl ([.ref (bd 0 0), .int (nI f)])).length) Slot.unset).toArray = ls at hl ⊢
  have hl : lv_has ls 2 [(0, .ref (bd 0 0)), (1, .int (nI f))] := hl
  have iRX8 : ∀ w ∈ wsX80, w ∈ wsX8_release := by decide +kernel
  refine lv_aload_n hx hb dX8_release_0 rfl (lv_at hl 0 rfl) ?_
  refine lv_iconst (v := nI 0) hx hb dX8_release_1 (by decide) ?_
  refine q_put (C := RX8) (T := TX8) (N := 36) (ty := .int) (v := .int (nI 0)) hx hb hts iRX8 tyX8 tyX8_ok nmX8 hown hC.1 (hW.to rLV0) (hW.in rLV0) hS rfl 0 (by decide) (hts (.fieldLink RX8 100 "LogWeaveModel" "thrown" "I") (List.mem_of_getElem? (i := 1) (by decide +kernel))) rfl rfl (by decide +kernel) rfl rfl (Nat.le_of_ble_eq_true rfl) dX8_release_2 (fun H1 locs hat hsz hoq hS => ?_)
  have hW := hW.upR 2 0 0 rfl rLV0 ((rLV0 (ρ := (qup ρ 2 0 0))).trans (by rw [qup_s]; rfl)) hat hoq
  have hW : rW G A (rT ρ) bd _ := hW
  have h160 := hF.fir hf
  refine lv_aload_n hx hb dX8_release_5 rfl (lv_at hl 0 rfl) ?_
  refine lv_aload_n hx hb dX8_release_6 rfl (lv_at hl 0 rfl) ?_
  refine lv_iload_n hx hb dX8_release_7 rfl (lv_at hl 1 rfl) ?_
  refine q_v (va_runV (As := [.int (nI f)]) (rest := [.ref (bd 0 0)]) ⟨hx, hb, hml, hown, hts⟩ (m_rnoFiring0 l G A (rT ρ) bd hF f hf) (cwV 1 hts gX8_release_X8_noFiring rfl rfl rfl (by decide +kernel) ⟨Nat.le_of_ble_eq_true rfl, Nat.le_of_ble_eq_true rfl⟩) ⟨rR.blind, qrecv hC (hW.to rLV0) rfl, rR.pre hC hW⟩ rfl rfl hl.1 rfl (lv_room (Nat.le_of_ble_eq_true rfl)) dX8_release_8 ⟨Nat.le_of_ble_eq_true rfl, Nat.le_of_ble_eq_true rfl⟩) hS (fun _ h => h.elim) (fun locs hS => ?_)
  refine lv_iconst (v := nI 1) hx hb dX8_release_11 (by decide) ?_
  refine q_v (va_runV (As := [.int (nI 0), .int (nI 1)]) (rest := []) ⟨hx, hb, hml, hown, hts⟩ (m_rfails0 l G A (rT ρ) bd hF 1 (rT_0 ρ)) (cwV 2 hts gX8_release_X8_fails rfl rfl rfl (by decide +kernel) ⟨Nat.le_of_ble_eq_true rfl, Nat.le_of_ble_eq_true rfl⟩) ⟨rR.blind, qrecv hC (hW.to rLV0) rfl, rR.pre hC hW⟩ rfl rfl hl.1 rfl (lv_room (Nat.le_of_ble_eq_true rfl)) dX8_release_12 ⟨Nat.le_of_ble_eq_true rfl, Nat.le_of_ble_eq_true rfl⟩) hS (fun _ h => h.elim) (fun locs hS => ?_)
  refine q_ne0 (tgt := 76) hx hb (by decide) dX8_release_15 (by decide) (fun g1 => (by omega)) (fun g1 => ?_)
  refine lv_aload_n hx hb dX8_release_18 rfl (lv_at hl 0 rfl) ?_
  refine lv_aload_n hx hb dX8_release_19 rfl (lv_at hl 0 rfl) ?_
  refine q_get (C := RX8) (T := TX8) (N := 36) hx hb hts iRX8 hown hC.1 (hW.to rLV0) rfl 28 (by decide) (hts (.fieldLink RX8 78 "LogWeaveModel" "isReleased" "[Z") (List.mem_of_getElem? (i := 2) (by decide +kernel))) rfl (v := .ref (bd 23 0)) rfl dX8_release_20 ?_
  refine lv_iload_n hx hb dX8_release_23 rfl (lv_at hl 1 rfl) ?_
  refine r_zald hx hb hC.1 (hW.to rLV23) 4 rfl (i := f) (by omega) (by decide) (v := nI ((rT ρ) 162 f)) rfl dX8_release_24 ?_
  refine q_ti (y := nI 0) (by rw [h0]) ?_
  refine lv_iconst (v := nI 2) hx hb dX8_release_25 (by decide) ?_
  refine q_v (va_runV (As := [.int (nI 0), .int (nI 2)]) (rest := []) ⟨hx, hb, hml, hown, hts⟩ (m_rfails0 l G A (rT ρ) bd hF 2 (rT_0 ρ)) (cwV 2 hts gX8_release_X8_fails rfl rfl rfl (by decide +kernel) ⟨Nat.le_of_ble_eq_true rfl, Nat.le_of_ble_eq_true rfl⟩) ⟨rR.blind, qrecv hC (hW.to rLV0) rfl, rR.pre hC hW⟩ rfl rfl hl.1 rfl (lv_room (Nat.le_of_ble_eq_true rfl)) dX8_release_26 ⟨Nat.le_of_ble_eq_true rfl, Nat.le_of_ble_eq_true rfl⟩) hS (fun _ h => h.elim) (fun locs hS => ?_)
  refine q_ne0 (tgt := 76) hx hb (by decide) dX8_release_29 (by decide) (fun g2 => (by omega)) (fun g2 => ?_)
  refine lv_aload_n hx hb dX8_release_32 rfl (lv_at hl 0 rfl) ?_
  refine lv_aload_n hx hb dX8_release_33 rfl (lv_at hl 0 rfl) ?_
  refine q_get (C := RX8) (T := TX8) (N := 36) hx hb hts iRX8 hown hC.1 (hW.to rLV0) rfl 22 (by decide) (hts (.fieldLink RX8 63 "LogWeaveModel" "alert" "[C") (List.mem_of_getElem? (i := 3) (by decide +kernel))) rfl (v := .ref (bd 18 0)) rfl dX8_release_34 ?_
  refine lv_aload_n hx hb dX8_release_37 rfl (lv_at hl 0 rfl) ?_
  refine q_get (C := RX8) (T := TX8) (N := 36) hx hb hts iRX8 hown hC.1 (hW.to rLV0) rfl 26 (by decide) (hts (.fieldLink RX8 72 "LogWeaveModel" "alertOf" "[I") (List.mem_of_getElem? (i := 4) (by decide +kernel))) rfl (v := .ref (bd 21 0)) rfl dX8_release_38 ?_
  refine lv_iload_n hx hb dX8_release_41 rfl (lv_at hl 1 rfl) ?_
  refine r_iald hx hb hC.1 (hW.to rLV21) 1 rfl (i := f) (by omega) (by decide) (v := nI ((rT ρ) 160 f)) rfl dX8_release_42 ?_
  refine r_cald hx hb hC.1 (hW.to rLV18) 3 rfl (i := ((rT ρ) 160 f)) (by omega) (by decide) (v := nI ((rT ρ) 131 ((rT ρ) 160 f))) rfl dX8_release_43 ?_
  refine lv_bipush (v := nI 113) hx hb dX8_release_44 (by decide) ?_
  refine q_eq (tgt := 68) hx hb (q31 (hB _ _)) (by decide) dX8_release_46 (by decide) (fun g3 => ?_) (fun g3 => ?_)
  · skip
    refine lv_iconst (v := nI 0) hx hb dX8_release_68 (by decide) ?_
    refine lv_iconst (v := nI 3) hx hb dX8_release_69 (by decide) ?_
    refine q_v (va_runV (As := [.int (nI 0), .int (nI 3)]) (rest := []) ⟨hx, hb, hml, hown, hts⟩ (m_rfails0 l G A (rT ρ) bd hF 3 (rT_0 ρ)) (cwV 2 hts gX8_release_X8_fails rfl rfl rfl (by decide +kernel) ⟨Nat.le_of_ble_eq_true rfl, Nat.le_of_ble_eq_true rfl⟩) ⟨rR.blind, qrecv hC (hW.to rLV0) rfl, rR.pre hC hW⟩ rfl rfl hl.1 rfl (lv_room (Nat.le_of_ble_eq_true rfl)) dX8_release_70 ⟨Nat.le_of_ble_eq_true rfl, Nat.le_of_ble_eq_true rfl⟩) hS (fun _ h => h.elim) (fun locs hS => ?_)
    refine q_eq0 (tgt := 78) hx hb (by decide) dX8_release_73 (by decide) (fun g4 => ?_) (fun g4 => (by omega))
    refine lv_aload_n hx hb dX8_release_78 rfl (lv_at hl 0 rfl) ?_
    refine q_get (C := RX8) (T := TX8) (N := 36) hx hb hts iRX8 hown hC.1 (hW.to rLV0) rfl 28 (by decide) (hts (.fieldLink RX8 78 "LogWeaveModel" "isReleased" "[Z") (List.mem_of_getElem? (i := 2) (by decide +kernel))) rfl (v := .ref (bd 23 0)) rfl dX8_release_79 ?_
    refine lv_iload_n hx hb dX8_release_82 rfl (lv_at hl 1 rfl) ?_
    refine lv_iconst (v := nI 1) hx hb dX8_release_83 (by decide) ?_
    refine q_zast hx hb hC.1 (hW.to rLV23) (hW.in rLV23) hS 4 rfl (vp_in_nI (n := f) (by omega) (by decide)) dX8_release_84 (fun H1 locs hat hsz hoq hS => ?_)
    rw [nI_clamp (n := f) (by omega)] at hat
    rw [show vp_nar .boolean (nI 1) = nI 1 from by decide] at hat
    rw [r_upd (rT ρ) 162 f 1] at hat
    have hW := hW.upR 162 f 1 rfl rLV23 (rLV23 (ρ := (qup (rT ρ) 162 f 1))) hat hoq
    refine lv_aload_n hx hb dX8_release_85 rfl (lv_at hl 0 rfl) ?_
    have hF2 := hF.up 162 f 1 (by decide) (by decide)
    refine q_wv (va_runV (As := []) (rest := []) ⟨hx, hb, hml, hown, hts⟩ (m_rdropsAll l G A (qup (rT ρ) 162 f 1) bd hF2 N hN) (cwV 0 hts gX8_release_X8_dropsAll rfl rfl rfl (by decide +kernel) ⟨Nat.le_of_ble_eq_true rfl, Nat.le_of_ble_eq_true rfl⟩) ⟨rR.blind, qrecv hC (hW.to rLV0) rfl, rR.pre hC hW⟩ rfl rfl hl.1 rfl (lv_room (Nat.le_of_ble_eq_true rfl)) dX8_release_86 ⟨Nat.le_of_ble_eq_true rfl, Nat.le_of_ble_eq_true rfl⟩) hS (fun _ h => h) (fun _ h => h) (fun H1 locs hW hz hk hS => ?_)
    exact W.iret hx hb hr (fun t ht _ => ⟨rfl, by rw [ht]; exact hW, hS.F ht⟩) hS.2.2 dX8_release_89
  · skip
    refine lv_aload_n hx hb dX8_release_49 rfl (lv_at hl 0 rfl) ?_
    refine q_get (C := RX8) (T := TX8) (N := 36) hx hb hts iRX8 hown hC.1 (hW.to rLV0) rfl 24 (by decide) (hts (.fieldLink RX8 69 "LogWeaveModel" "firing" "[I") (List.mem_of_getElem? (i := 5) (by decide +kernel))) rfl (v := .ref (bd 20 0)) rfl dX8_release_50 ?_
    refine lv_aload_n hx hb dX8_release_53 rfl (lv_at hl 0 rfl) ?_
    refine q_get (C := RX8) (T := TX8) (N := 36) hx hb hts iRX8 hown hC.1 (hW.to rLV0) rfl 26 (by decide) (hts (.fieldLink RX8 72 "LogWeaveModel" "alertOf" "[I") (List.mem_of_getElem? (i := 4) (by decide +kernel))) rfl (v := .ref (bd 21 0)) rfl dX8_release_54 ?_
    refine lv_iload_n hx hb dX8_release_57 rfl (lv_at hl 1 rfl) ?_
    refine r_iald hx hb hC.1 (hW.to rLV21) 1 rfl (i := f) (by omega) (by decide) (v := nI ((rT ρ) 160 f)) rfl dX8_release_58 ?_
    refine r_iald hx hb hC.1 (hW.to rLV20) 1 rfl (i := ((rT ρ) 160 f)) (by omega) (by decide) (v := nI ((rT ρ) 135 ((rT ρ) 160 f))) rfl dX8_release_59 ?_
    refine lv_iload_n hx hb dX8_release_60 rfl (lv_at hl 1 rfl) ?_
    refine q_ne (tgt := 68) hx hb (q31 (hB _ _)) (by omega) dX8_release_61 (by decide) (fun g5 => ?_) (fun g5 => ?_)
    · skip
      refine lv_iconst (v := nI 0) hx hb dX8_release_68 (by decide) ?_
      refine lv_iconst (v := nI 3) hx hb dX8_release_69 (by decide) ?_
      refine q_v (va_runV (As := [.int (nI 0), .int (nI 3)]) (rest := []) ⟨hx, hb, hml, hown, hts⟩ (m_rfails0 l G A (rT ρ) bd hF 3 (rT_0 ρ)) (cwV 2 hts gX8_release_X8_fails rfl rfl rfl (by decide +kernel) ⟨Nat.le_of_ble_eq_true rfl, Nat.le_of_ble_eq_true rfl⟩) ⟨rR.blind, qrecv hC (hW.to rLV0) rfl, rR.pre hC hW⟩ rfl rfl hl.1 rfl (lv_room (Nat.le_of_ble_eq_true rfl)) dX8_release_70 ⟨Nat.le_of_ble_eq_true rfl, Nat.le_of_ble_eq_true rfl⟩) hS (fun _ h => h.elim) (fun locs hS => ?_)
      refine q_eq0 (tgt := 78) hx hb (by decide) dX8_release_73 (by decide) (fun g6 => ?_) (fun g6 => (by omega))
      refine lv_aload_n hx hb dX8_release_78 rfl (lv_at hl 0 rfl) ?_
      refine q_get (C := RX8) (T := TX8) (N := 36) hx hb hts iRX8 hown hC.1 (hW.to rLV0) rfl 28 (by decide) (hts (.fieldLink RX8 78 "LogWeaveModel" "isReleased" "[Z") (List.mem_of_getElem? (i := 2) (by decide +kernel))) rfl (v := .ref (bd 23 0)) rfl dX8_release_79 ?_
      refine lv_iload_n hx hb dX8_release_82 rfl (lv_at hl 1 rfl) ?_
      refine lv_iconst (v := nI 1) hx hb dX8_release_83 (by decide) ?_
      refine q_zast hx hb hC.1 (hW.to rLV23) (hW.in rLV23) hS 4 rfl (vp_in_nI (n := f) (by omega) (by decide)) dX8_release_84 (fun H1 locs hat hsz hoq hS => ?_)
      rw [nI_clamp (n := f) (by omega)] at hat
      rw [show vp_nar .boolean (nI 1) = nI 1 from by decide] at hat
      rw [r_upd (rT ρ) 162 f 1] at hat
      have hW := hW.upR 162 f 1 rfl rLV23 (rLV23 (ρ := (qup (rT ρ) 162 f 1))) hat hoq
      refine lv_aload_n hx hb dX8_release_85 rfl (lv_at hl 0 rfl) ?_
      have hF2 := hF.up 162 f 1 (by decide) (by decide)
      refine q_wv (va_runV (As := []) (rest := []) ⟨hx, hb, hml, hown, hts⟩ (m_rdropsAll l G A (qup (rT ρ) 162 f 1) bd hF2 N hN) (cwV 0 hts gX8_release_X8_dropsAll rfl rfl rfl (by decide +kernel) ⟨Nat.le_of_ble_eq_true rfl, Nat.le_of_ble_eq_true rfl⟩) ⟨rR.blind, qrecv hC (hW.to rLV0) rfl, rR.pre hC hW⟩ rfl rfl hl.1 rfl (lv_room (Nat.le_of_ble_eq_true rfl)) dX8_release_86 ⟨Nat.le_of_ble_eq_true rfl, Nat.le_of_ble_eq_true rfl⟩) hS (fun _ h => h) (fun _ h => h) (fun H1 locs hW hz hk hS => ?_)
      exact W.iret hx hb hr (fun t ht _ => ⟨rfl, by rw [ht]; exact hW, hS.F ht⟩) hS.2.2 dX8_release_89
    · skip
      refine lv_iconst (v := nI 1) hx hb dX8_release_64 (by decide) ?_
      refine lv_goto (tgt := 69) hx hb dX8_release_65 (by decide) ?_
      refine lv_iconst (v := nI 3) hx hb dX8_release_69 (by decide) ?_
      omega
set_option maxHeartbeats 4000000 in
set_option maxRecDepth 100000 in
theorem m_raddLineK (l : Launch) (G : QG) (A : Nat → Prop) (ρ bd : QSt) (hF : rWF (rT ρ)) (s0 r0 x1 x2 x3 b0 q0 M N : Nat) (hs0 : s0 < 4) (hr0 : r0 < 5) (hx1 : x1 < 100) (hx2 : x2 < 100) (hx3 : x3 < 100) (hb0 : 1 ≤ b0 ∧ b0 ≤ 99) (hn0 : (rT ρ) 0 0 < 200) (h13 : (rT ρ) 0 3 + 6 ≤ 1300) (f : Nat → QSt) (P O : Nat → Nat) (hq0 : q0 < (rT ρ) 0 1) (hp0 : rP (rLi (rT ρ) s0 r0 x1 x2 x3 b0) ((rT ρ) 0 0) q0) (hlow : ∀ p, p < q0 → ¬ rP (rLi (rT ρ) s0 r0 x1 x2 x3 b0) ((rT ρ) 0 0) p) (h0 : f 0 = (qup (rLi (rT ρ) s0 r0 x1 x2 x3 b0) 68 ((rT ρ) 0 0) q0)) (hT : rTurns f P O M s0) (hN : rDrp (rLs (f M) ((rT ρ) 0 2)) s0 N) : Met l yX8_addLine wsX8_addLine ({ frames := 3, cells := 0, slots := 0, locals := 74 } : Room) (rR G A ρ bd [.ref (bd 0 0), .int (nI s0), .int (nI r0), .int (nI x1), .int (nI x2), .int (nI x3), .int (nI b0)]) (qWV (some (.int (nI ((rT ρ) 0 0)))) (rW G A (rDs (rLs (f M) ((rT ρ) 0 2)) s0 N) bd) A) 0 0 A := by
  refine Met.ofW (cc := cX8_addLine) (maxL := 10) (ret := (some .int)) (by decide) rfl ?_
  intro p e s m args below meth c s₁ B hml hv
  obtain ⟨rfl, hC, hW⟩ := hv
  have hx := B.exec
  have hb := B.bytes
  have hr := B.returns
  have hts := atoms_spec (ws := wsX8_addLine) B.pre
  have hown : s.vm.findClass RX8 = some m.cls := findClass_of_methodNamed B.named
  have hlocks := B.notSynchronized
  have hB := hF.1
  have hn := hF.n
  have hS : va_S A s.heap s.heap [] := va_S.rf
  have hl := lv_entry ([.ref (bd 0 0), .int (nI s0), .int (nI r0), .int (nI x1), .int (nI x2), .int (nI x3), .int (nI b0)]) (n := 10) (Nat.le_of_ble_eq_true rfl)
  rw [lg_entry_eq]
  generalize (lg_sl ([.ref (bd 0 0), .int (nI s0), .int (nI r0), .int (nI x1), .int (nI x2), .int (nI x3), .int (nI b0)]) ++ List.replicate (10 - (lg_sl ([.ref (bd 0 0), .int (nI s0), .int (nI r0), .int (nI x1), .int (nI x2), .int (nI x3), .int (nI b0)])).length) Slot.unset).toArray = ls at hl ⊢
  have hl : lv_has ls 10 [(0, .ref (bd 0 0)), (1, .int (nI s0)), (2, .int (nI r0)), (3, .int (nI x1)), (4, .int (nI x2)), (5, .int (nI x3)), (6, .int (nI b0))] := hl
  have iRX8 : ∀ w ∈ wsX80, w ∈ wsX8_addLine := by decide +kernel
  refine lv_aload_n hx hb dX8_addLine_0 rfl (lv_at hl 0 rfl) ?_
  refine lv_iconst (v := nI 0) hx hb dX8_addLine_1 (by decide) ?_
  refine q_put (C := RX8) (T := TX8) (N := 36) (ty := .int) (v := .int (nI 0)) hx hb hts iRX8 tyX8 tyX8_ok nmX8 hown hC.1 (hW.to rLV0) (hW.in rLV0) hS rfl 0 (by decide) (hts (.fieldLink RX8 100 "LogWeaveModel" "thrown" "I") (List.mem_of_getElem? (i := 1) (by decide +kernel))) rfl rfl (by decide +kernel) rfl rfl (Nat.le_of_ble_eq_true rfl) dX8_addLine_2 (fun H1 locs hat hsz hoq hS => ?_)
  have hW := hW.upR 2 0 0 rfl rLV0 ((rLV0 (ρ := (qup ρ 2 0 0))).trans (by rw [qup_s]; rfl)) hat hoq
  have hW : rW G A (rT ρ) bd _ := hW
  refine lv_iload_n hx hb dX8_addLine_5 rfl (lv_at hl 1 rfl) ?_
  refine q_v (va_runS (As := [.int (nI s0)]) (rest := []) ⟨hx, hb, hml, hown, hts⟩ (m_risSource l (nI s0)) (va_cwS 1 hts gX8_addLine_X8_isSource rfl rfl rfl (by decide +kernel) ⟨Nat.le_of_ble_eq_true rfl, Nat.le_of_ble_eq_true rfl⟩) ⟨qU.blind, qU.pre⟩ rfl rfl hl.1 rfl (lv_room (Nat.le_of_ble_eq_true rfl)) dX8_addLine_6 ⟨Nat.le_of_ble_eq_true rfl, Nat.le_of_ble_eq_true rfl⟩) hS (fun _ h => h.elim) (fun locs hS => ?_)
  refine q_ti (y := nI 1) (by rw [qB_t ⟨nI_le (by omega) (by omega), nI_le (by omega) (by decide)⟩]) ?_
  refine q_eq0 (tgt := 66) hx hb (by decide) dX8_addLine_9 (by decide) (fun g1 => (by omega)) (fun g1 => ?_)
  refine lv_iload_n hx hb dX8_addLine_12 rfl (lv_at hl 2 rfl) ?_
  refine q_v (va_runS (As := [.int (nI r0)]) (rest := []) ⟨hx, hb, hml, hown, hts⟩ (m_risRank l (nI r0)) (va_cwS 1 hts gX8_addLine_X8_isRank rfl rfl rfl (by decide +kernel) ⟨Nat.le_of_ble_eq_true rfl, Nat.le_of_ble_eq_true rfl⟩) ⟨qU.blind, qU.pre⟩ rfl rfl hl.1 rfl (lv_room (Nat.le_of_ble_eq_true rfl)) dX8_addLine_13 ⟨Nat.le_of_ble_eq_true rfl, Nat.le_of_ble_eq_true rfl⟩) hS (fun _ h => h.elim) (fun locs hS => ?_)
  refine q_ti (y := nI 1) (by rw [qB_t ⟨nI_le (by omega) (by omega), nI_le (by omega) (by decide)⟩]) ?_
  refine q_eq0 (tgt := 66) hx hb (by decide) dX8_addLine_16 (by decide) (fun g2 => (by omega)) (fun g2 => ?_)
  refine lv_iload_n hx hb dX8_addLine_19 rfl (lv_at hl 3 rfl) ?_
  refine lv_iconst (v := nI 0) hx hb dX8_addLine_20 (by decide) ?_
  refine lv_bipush (v := nI 99) hx hb dX8_addLine_21 (by decide) ?_
  refine q_v (va_runS (As := [.int (nI x1), .int (nI 0), .int (nI 99)]) (rest := []) ⟨hx, hb, hml, hown, hts⟩ (m_rin l (nI x1) (nI 0) (nI 99)) (va_cwS 3 hts gX8_addLine_X8_in rfl rfl rfl (by decide +kernel) ⟨Nat.le_of_ble_eq_true rfl, Nat.le_of_ble_eq_true rfl⟩) ⟨qU.blind, qU.pre⟩ rfl rfl hl.1 rfl (lv_room (Nat.le_of_ble_eq_true rfl)) dX8_addLine_23 ⟨Nat.le_of_ble_eq_true rfl, Nat.le_of_ble_eq_true rfl⟩) hS (fun _ h => h.elim) (fun locs hS => ?_)
  refine q_ti (y := nI 1) (by rw [qB_t ⟨nI_le (by omega) (by omega), nI_le (by omega) (by decide)⟩]) ?_
  refine q_eq0 (tgt := 66) hx hb (by decide) dX8_addLine_26 (by decide) (fun g3 => (by omega)) (fun g3 => ?_)
  refine lv_iload hx hb dX8_addLine_29 (lv_at hl 4 rfl) ?_
  refine lv_iconst (v := nI 0) hx hb dX8_addLine_31 (by decide) ?_
  refine lv_bipush (v := nI 99) hx hb dX8_addLine_32 (by decide) ?_
  refine q_v (va_runS (As := [.int (nI x2), .int (nI 0), .int (nI 99)]) (rest := []) ⟨hx, hb, hml, hown, hts⟩ (m_rin l (nI x2) (nI 0) (nI 99)) (va_cwS 3 hts gX8_addLine_X8_in rfl rfl rfl (by decide +kernel) ⟨Nat.le_of_ble_eq_true rfl, Nat.le_of_ble_eq_true rfl⟩) ⟨qU.blind, qU.pre⟩ rfl rfl hl.1 rfl (lv_room (Nat.le_of_ble_eq_true rfl)) dX8_addLine_34 ⟨Nat.le_of_ble_eq_true rfl, Nat.le_of_ble_eq_true rfl⟩) hS (fun _ h => h.elim) (fun locs hS => ?_)
  refine q_ti (y := nI 1) (by rw [qB_t ⟨nI_le (by omega) (by omega), nI_le (by omega) (by decide)⟩]) ?_
  refine q_eq0 (tgt := 66) hx hb (by decide) dX8_addLine_37 (by decide) (fun g4 => (by omega)) (fun g4 => ?_)
  refine lv_iload hx hb dX8_addLine_40 (lv_at hl 5 rfl) ?_
  refine lv_iconst (v := nI 0) hx hb dX8_addLine_42 (by decide) ?_
  refine lv_bipush (v := nI 99) hx hb dX8_addLine_43 (by decide) ?_
  refine q_v (va_runS (As := [.int (nI x3), .int (nI 0), .int (nI 99)]) (rest := []) ⟨hx, hb, hml, hown, hts⟩ (m_rin l (nI x3) (nI 0) (nI 99)) (va_cwS 3 hts gX8_addLine_X8_in rfl rfl rfl (by decide +kernel) ⟨Nat.le_of_ble_eq_true rfl, Nat.le_of_ble_eq_true rfl⟩) ⟨qU.blind, qU.pre⟩ rfl rfl hl.1 rfl (lv_room (Nat.le_of_ble_eq_true rfl)) dX8_addLine_45 ⟨Nat.le_of_ble_eq_true rfl, Nat.le_of_ble_eq_true rfl⟩) hS (fun _ h => h.elim) (fun locs hS => ?_)
  refine q_ti (y := nI 1) (by rw [qB_t ⟨nI_le (by omega) (by omega), nI_le (by omega) (by decide)⟩]) ?_
  refine q_eq0 (tgt := 66) hx hb (by decide) dX8_addLine_48 (by decide) (fun g5 => (by omega)) (fun g5 => ?_)
  refine lv_iload hx hb dX8_addLine_51 (lv_at hl 6 rfl) ?_
  refine lv_iconst (v := nI 1) hx hb dX8_addLine_53 (by decide) ?_
  refine lv_bipush (v := nI 99) hx hb dX8_addLine_54 (by decide) ?_
  refine q_v (va_runS (As := [.int (nI b0), .int (nI 1), .int (nI 99)]) (rest := []) ⟨hx, hb, hml, hown, hts⟩ (m_rin l (nI b0) (nI 1) (nI 99)) (va_cwS 3 hts gX8_addLine_X8_in rfl rfl rfl (by decide +kernel) ⟨Nat.le_of_ble_eq_true rfl, Nat.le_of_ble_eq_true rfl⟩) ⟨qU.blind, qU.pre⟩ rfl rfl hl.1 rfl (lv_room (Nat.le_of_ble_eq_true rfl)) dX8_addLine_56 ⟨Nat.le_of_ble_eq_true rfl, Nat.le_of_ble_eq_true rfl⟩) hS (fun _ h => h.elim) (fun locs hS => ?_)
  refine q_ti (y := nI 1) (by rw [qB_t ⟨nI_le (by omega) (by omega), nI_le (by omega) (by decide)⟩]) ?_
  refine q_eq0 (tgt := 66) hx hb (by decide) dX8_addLine_59 (by decide) (fun g6 => (by omega)) (fun g6 => ?_)
  refine lv_iconst (v := nI 1) hx hb dX8_addLine_62 (by decide) ?_
  refine lv_goto (tgt := 67) hx hb dX8_addLine_63 (by decide) ?_
  refine lv_istore (lv' := [(7, .int (nI 1)), (0, .ref (bd 0 0)), (1, .int (nI s0)), (2, .int (nI r0)), (3, .int (nI x1)), (4, .int (nI x2)), (5, .int (nI x3)), (6, .int (nI b0))]) hx hb dX8_addLine_67 hl (by decide) rfl (fun ls hl => ?_)
  refine lv_aload_n hx hb dX8_addLine_69 rfl (lv_at hl 1 rfl) ?_
  refine lv_iload hx hb dX8_addLine_70 (lv_at hl 0 rfl) ?_
  refine q_ne0 (tgt := 79) hx hb (by decide) dX8_addLine_72 (by decide) (fun g7 => ?_) (fun g7 => (by omega))
  refine lv_iconst (v := nI 0) hx hb dX8_addLine_79 (by decide) ?_
  refine lv_iconst (v := nI 1) hx hb dX8_addLine_80 (by decide) ?_
  refine q_v (va_runV (As := [.int (nI 0), .int (nI 1)]) (rest := []) ⟨hx, hb, hml, hown, hts⟩ (m_rfails0 l G A (rT ρ) bd hF 1 (rT_0 ρ)) (cwV 2 hts gX8_addLine_X8_fails rfl rfl rfl (by decide +kernel) ⟨Nat.le_of_ble_eq_true rfl, Nat.le_of_ble_eq_true rfl⟩) ⟨rR.blind, qrecv hC (hW.to rLV0) rfl, rR.pre hC hW⟩ rfl rfl hl.1 rfl (lv_room (Nat.le_of_ble_eq_true rfl)) dX8_addLine_81 ⟨Nat.le_of_ble_eq_true rfl, Nat.le_of_ble_eq_true rfl⟩) hS (fun _ h => h.elim) (fun locs hS => ?_)
  refine q_ne0 (tgt := 110) hx hb (by decide) dX8_addLine_84 (by decide) (fun g8 => (by omega)) (fun g8 => ?_)
  refine lv_aload_n hx hb dX8_addLine_87 rfl (lv_at hl 1 rfl) ?_
  refine lv_aload_n hx hb dX8_addLine_88 rfl (lv_at hl 1 rfl) ?_
  refine q_get (C := RX8) (T := TX8) (N := 36) hx hb hts iRX8 hown hC.1 (hW.to rLV0) rfl 2 (by decide) (hts (.fieldLink RX8 104 "LogWeaveModel" "lines" "I") (List.mem_of_getElem? (i := 2) (by decide +kernel))) rfl (v := .int (nI ((rT ρ) 0 0))) rfl dX8_addLine_89 ?_
  refine q_ti (y := nI ((rT ρ) 0 0)) rfl ?_
  refine lv_sipush (v := nI 200) hx hb dX8_addLine_92 (by decide) ?_
  refine q_ne (tgt := 102) hx hb (q31 (hB _ _)) (by decide) dX8_addLine_95 (by decide) (fun g9 => ?_) (fun g9 => ?_)
  · skip
    refine lv_iconst (v := nI 0) hx hb dX8_addLine_102 (by decide) ?_
    refine lv_iconst (v := nI 2) hx hb dX8_addLine_103 (by decide) ?_
    refine q_v (va_runV (As := [.int (nI 0), .int (nI 2)]) (rest := []) ⟨hx, hb, hml, hown, hts⟩ (m_rfails0 l G A (rT ρ) bd hF 2 (rT_0 ρ)) (cwV 2 hts gX8_addLine_X8_fails rfl rfl rfl (by decide +kernel) ⟨Nat.le_of_ble_eq_true rfl, Nat.le_of_ble_eq_true rfl⟩) ⟨rR.blind, qrecv hC (hW.to rLV0) rfl, rR.pre hC hW⟩ rfl rfl hl.1 rfl (lv_room (Nat.le_of_ble_eq_true rfl)) dX8_addLine_104 ⟨Nat.le_of_ble_eq_true rfl, Nat.le_of_ble_eq_true rfl⟩) hS (fun _ h => h.elim) (fun locs hS => ?_)
    refine q_eq0 (tgt := 112) hx hb (by decide) dX8_addLine_107 (by decide) (fun g10 => ?_) (fun g10 => (by omega))
    refine lv_aload_n hx hb dX8_addLine_112 rfl (lv_at hl 1 rfl) ?_
    refine q_get (C := RX8) (T := TX8) (N := 36) hx hb hts iRX8 hown hC.1 (hW.to rLV0) rfl 2 (by decide) (hts (.fieldLink RX8 104 "LogWeaveModel" "lines" "I") (List.mem_of_getElem? (i := 2) (by decide +kernel))) rfl (v := .int (nI ((rT ρ) 0 0))) rfl dX8_addLine_113 ?_
    refine q_ti (y := nI ((rT ρ) 0 0)) rfl ?_
    refine lv_istore (lv' := [(8, .int (nI ((rT ρ) 0 0))), (7, .int (nI 1)), (0, .ref (bd 0 0)), (1, .int (nI s0)), (2, .int (nI r0)), (3, .int (nI x1)), (4, .int (nI x2)), (5, .int (nI x3)), (6, .int (nI b0))]) hx hb dX8_addLine_116 hl (by decide) rfl (fun ls hl => ?_)
    refine lv_aload_n hx hb dX8_addLine_118 rfl (lv_at hl 2 rfl) ?_
    refine q_get (C := RX8) (T := TX8) (N := 36) hx hb hts iRX8 hown hC.1 (hW.to rLV0) rfl 3 (by decide) (hts (.fieldLink RX8 7 "LogWeaveModel" "source" "[I") (List.mem_of_getElem? (i := 3) (by decide +kernel))) rfl (v := .ref (bd 1 0)) rfl dX8_addLine_119 ?_
    refine lv_iload hx hb dX8_addLine_122 (lv_at hl 0 rfl) ?_
    refine lv_iload_n hx hb dX8_addLine_124 rfl (lv_at hl 3 rfl) ?_
    refine q_iast hx hb hC.1 (hW.to rLV1) (hW.in rLV1) hS 1 rfl (vp_in_nI (n := ((rT ρ) 0 0)) (by omega) (by decide)) dX8_addLine_125 (fun H1 locs hat hsz hoq hS => ?_)
    rw [nI_clamp (n := ((rT ρ) 0 0)) (by omega)] at hat
    rw [r_upd (rT ρ) 64 ((rT ρ) 0 0) s0] at hat
    have hW := hW.upR 64 ((rT ρ) 0 0) s0 rfl rLV1 (rLV1 (ρ := (qup (rT ρ) 64 ((rT ρ) 0 0) s0))) hat hoq
    refine lv_aload_n hx hb dX8_addLine_126 rfl (lv_at hl 2 rfl) ?_
    refine q_get (C := RX8) (T := TX8) (N := 36) hx hb hts iRX8 hown hC.1 (hW.to rLV0) rfl 4 (by decide) (hts (.fieldLink RX8 13 "LogWeaveModel" "rank" "[I") (List.mem_of_getElem? (i := 4) (by decide +kernel))) rfl (v := .ref (bd 2 0)) rfl dX8_addLine_127 ?_
    refine lv_iload hx hb dX8_addLine_130 (lv_at hl 0 rfl) ?_
    refine lv_iload_n hx hb dX8_addLine_132 rfl (lv_at hl 4 rfl) ?_
    refine q_iast hx hb hC.1 (hW.to rLV2) (hW.in rLV2) hS 1 rfl (vp_in_nI (n := ((rT ρ) 0 0)) (by omega) (by decide)) dX8_addLine_133 (fun H1 locs hat hsz hoq hS => ?_)
    rw [nI_clamp (n := ((rT ρ) 0 0)) (by omega)] at hat
    rw [r_upd (qup (rT ρ) 64 ((rT ρ) 0 0) s0) 65 ((rT ρ) 0 0) r0] at hat
    have hW := hW.upR 65 ((rT ρ) 0 0) r0 rfl rLV2 (rLV2 (ρ := (qup (qup (rT ρ) 64 ((rT ρ) 0 0) s0) 65 ((rT ρ) 0 0) r0))) hat hoq
    refine lv_aload_n hx hb dX8_addLine_134 rfl (lv_at hl 2 rfl) ?_
    refine q_get (C := RX8) (T := TX8) (N := 36) hx hb hts iRX8 hown hC.1 (hW.to rLV0) rfl 5 (by decide) (hts (.fieldLink RX8 16 "LogWeaveModel" "word" "[I") (List.mem_of_getElem? (i := 5) (by decide +kernel))) rfl (v := .ref (bd 3 0)) rfl dX8_addLine_135 ?_
    refine lv_iconst (v := nI 3) hx hb dX8_addLine_138 (by decide) ?_
    refine lv_iload hx hb dX8_addLine_139 (lv_at hl 0 rfl) ?_
    refine lv_imul hx hb dX8_addLine_141 ?_
    refine q_ti (pk_mul 3 ((rT ρ) 0 0)) ?_
    refine lv_iload_n hx hb dX8_addLine_142 rfl (lv_at hl 5 rfl) ?_
    refine q_iast hx hb hC.1 (hW.to rLV3) (hW.in rLV3) hS 1 rfl (vp_in_nI (n := (3 * ((rT ρ) 0 0))) (by omega) (by decide)) dX8_addLine_143 (fun H1 locs hat hsz hoq hS => ?_)
    rw [nI_clamp (n := (3 * ((rT ρ) 0 0))) (by omega)] at hat
    have hat : va_at G.1 vwCl (bd 3 0, .inl (G.2 1, 600, .inl (upd (fun j => nI ((qup (qup (rT ρ) 64 ((rT ρ) 0 0) s0) 65 ((rT ρ) 0 0) r0) (80 + j % 3) (j / 3))) (3 * ((rT ρ) 0 0) + 0) (nI x1)))) H1 := hat
    rw [r_upd3 (qup (qup (rT ρ) 64 ((rT ρ) 0 0) s0) 65 ((rT ρ) 0 0) r0) 80 ((rT ρ) 0 0) 0 x1 (by omega)] at hat
    have hW := hW.upR 80 ((rT ρ) 0 0) x1 rfl rLV3 (rLV3 (ρ := (qup (qup (qup (rT ρ) 64 ((rT ρ) 0 0) s0) 65 ((rT ρ) 0 0) r0) 80 ((rT ρ) 0 0) x1))) hat hoq
    refine lv_aload_n hx hb dX8_addLine_144 rfl (lv_at hl 2 rfl) ?_
    refine q_get (C := RX8) (T := TX8) (N := 36) hx hb hts iRX8 hown hC.1 (hW.to rLV0) rfl 5 (by decide) (hts (.fieldLink RX8 16 "LogWeaveModel" "word" "[I") (List.mem_of_getElem? (i := 5) (by decide +kernel))) rfl (v := .ref (bd 3 0)) rfl dX8_addLine_145 ?_
    refine lv_iconst (v := nI 3) hx hb dX8_addLine_148 (by decide) ?_
    refine lv_iload hx hb dX8_addLine_149 (lv_at hl 0 rfl) ?_
    refine lv_imul hx hb dX8_addLine_151 ?_
    refine q_ti (pk_mul 3 ((rT ρ) 0 0)) ?_
    refine lv_iconst (v := nI 1) hx hb dX8_addLine_152 (by decide) ?_
    refine lv_iadd hx hb dX8_addLine_153 ?_
    refine q_ti (nI_add (3 * ((rT ρ) 0 0)) 1) ?_
    refine lv_iload hx hb dX8_addLine_154 (lv_at hl 6 rfl) ?_
    refine q_iast hx hb hC.1 (hW.to rLV3) (hW.in rLV3) hS 1 rfl (vp_in_nI (n := ((3 * ((rT ρ) 0 0)) + 1)) (by omega) (by decide)) dX8_addLine_156 (fun H1 locs hat hsz hoq hS => ?_)
    rw [nI_clamp (n := ((3 * ((rT ρ) 0 0)) + 1)) (by omega)] at hat
    rw [r_upd3 (qup (qup (qup (rT ρ) 64 ((rT ρ) 0 0) s0) 65 ((rT ρ) 0 0) r0) 80 ((rT ρ) 0 0) x1) 80 ((rT ρ) 0 0) 1 x2 (by omega)] at hat
    have hW := hW.upR 81 ((rT ρ) 0 0) x2 rfl rLV3 (rLV3 (ρ := (qup (qup (qup (qup (rT ρ) 64 ((rT ρ) 0 0) s0) 65 ((rT ρ) 0 0) r0) 80 ((rT ρ) 0 0) x1) 81 ((rT ρ) 0 0) x2))) hat hoq
    refine lv_aload_n hx hb dX8_addLine_157 rfl (lv_at hl 2 rfl) ?_
    refine q_get (C := RX8) (T := TX8) (N := 36) hx hb hts iRX8 hown hC.1 (hW.to rLV0) rfl 5 (by decide) (hts (.fieldLink RX8 16 "LogWeaveModel" "word" "[I") (List.mem_of_getElem? (i := 5) (by decide +kernel))) rfl (v := .ref (bd 3 0)) rfl dX8_addLine_158 ?_
    refine lv_iconst (v := nI 3) hx hb dX8_addLine_161 (by decide) ?_
    refine lv_iload hx hb dX8_addLine_162 (lv_at hl 0 rfl) ?_
    refine lv_imul hx hb dX8_addLine_164 ?_
    refine q_ti (pk_mul 3 ((rT ρ) 0 0)) ?_
    refine lv_iconst (v := nI 2) hx hb dX8_addLine_165 (by decide) ?_
    refine lv_iadd hx hb dX8_addLine_166 ?_
    refine q_ti (nI_add (3 * ((rT ρ) 0 0)) 2) ?_
    refine lv_iload hx hb dX8_addLine_167 (lv_at hl 7 rfl) ?_
    refine q_iast hx hb hC.1 (hW.to rLV3) (hW.in rLV3) hS 1 rfl (vp_in_nI (n := ((3 * ((rT ρ) 0 0)) + 2)) (by omega) (by decide)) dX8_addLine_169 (fun H1 locs hat hsz hoq hS => ?_)
    rw [nI_clamp (n := ((3 * ((rT ρ) 0 0)) + 2)) (by omega)] at hat
    rw [r_upd3 (qup (qup (qup (qup (rT ρ) 64 ((rT ρ) 0 0) s0) 65 ((rT ρ) 0 0) r0) 80 ((rT ρ) 0 0) x1) 81 ((rT ρ) 0 0) x2) 80 ((rT ρ) 0 0) 2 x3 (by omega)] at hat
    have hW := hW.upR 82 ((rT ρ) 0 0) x3 rfl rLV3 (rLV3 (ρ := (qup (qup (qup (qup (qup (rT ρ) 64 ((rT ρ) 0 0) s0) 65 ((rT ρ) 0 0) r0) 80 ((rT ρ) 0 0) x1) 81 ((rT ρ) 0 0) x2) 82 ((rT ρ) 0 0) x3))) hat hoq
    refine lv_aload_n hx hb dX8_addLine_170 rfl (lv_at hl 2 rfl) ?_
    refine q_get (C := RX8) (T := TX8) (N := 36) hx hb hts iRX8 hown hC.1 (hW.to rLV0) rfl 6 (by decide) (hts (.fieldLink RX8 19 "LogWeaveModel" "bytes" "[I") (List.mem_of_getElem? (i := 6) (by decide +kernel))) rfl (v := .ref (bd 4 0)) rfl dX8_addLine_171 ?_
    refine lv_iload hx hb dX8_addLine_174 (lv_at hl 0 rfl) ?_
    refine lv_iload hx hb dX8_addLine_176 (lv_at hl 8 rfl) ?_
    refine q_iast hx hb hC.1 (hW.to rLV4) (hW.in rLV4) hS 1 rfl (vp_in_nI (n := ((rT ρ) 0 0)) (by omega) (by decide)) dX8_addLine_178 (fun H1 locs hat hsz hoq hS => ?_)
    rw [nI_clamp (n := ((rT ρ) 0 0)) (by omega)] at hat
    rw [r_upd (qup (qup (qup (qup (qup (rT ρ) 64 ((rT ρ) 0 0) s0) 65 ((rT ρ) 0 0) r0) 80 ((rT ρ) 0 0) x1) 81 ((rT ρ) 0 0) x2) 82 ((rT ρ) 0 0) x3) 66 ((rT ρ) 0 0) b0] at hat
    have hW := hW.upR 66 ((rT ρ) 0 0) b0 rfl rLV4 (rLV4 (ρ := (qup (qup (qup (qup (qup (qup (rT ρ) 64 ((rT ρ) 0 0) s0) 65 ((rT ρ) 0 0) r0) 80 ((rT ρ) 0 0) x1) 81 ((rT ρ) 0 0) x2) 82 ((rT ρ) 0 0) x3) 66 ((rT ρ) 0 0) b0))) hat hoq
    refine lv_aload_n hx hb dX8_addLine_179 rfl (lv_at hl 2 rfl) ?_
    refine q_get (C := RX8) (T := TX8) (N := 36) hx hb hts iRX8 hown hC.1 (hW.to rLV0) rfl 7 (by decide) (hts (.fieldLink RX8 22 "LogWeaveModel" "came" "[I") (List.mem_of_getElem? (i := 7) (by decide +kernel))) rfl (v := .ref (bd 5 0)) rfl dX8_addLine_180 ?_
    refine lv_iload hx hb dX8_addLine_183 (lv_at hl 0 rfl) ?_
    refine lv_aload_n hx hb dX8_addLine_185 rfl (lv_at hl 2 rfl) ?_
    refine q_get (C := RX8) (T := TX8) (N := 36) hx hb hts iRX8 hown hC.1 (hW.to rLV0) rfl 1 (by decide) (hts (.fieldLink RX8 132 "LogWeaveModel" "tick" "I") (List.mem_of_getElem? (i := 8) (by decide +kernel))) rfl (v := .int (nI ((qup (qup (qup (qup (qup (qup (rT ρ) 64 ((rT ρ) 0 0) s0) 65 ((rT ρ) 0 0) r0) 80 ((rT ρ) 0 0) x1) 81 ((rT ρ) 0 0) x2) 82 ((rT ρ) 0 0) x3) 66 ((rT ρ) 0 0) b0) 1 0))) rfl dX8_addLine_186 ?_
    refine q_ti (y := nI ((rT ρ) 1 0)) rfl ?_
    refine q_iast hx hb hC.1 (hW.to rLV5) (hW.in rLV5) hS 1 rfl (vp_in_nI (n := ((rT ρ) 0 0)) (by omega) (by decide)) dX8_addLine_189 (fun H1 locs hat hsz hoq hS => ?_)
    rw [nI_clamp (n := ((rT ρ) 0 0)) (by omega)] at hat
    rw [r_upd (qup (qup (qup (qup (qup (qup (rT ρ) 64 ((rT ρ) 0 0) s0) 65 ((rT ρ) 0 0) r0) 80 ((rT ρ) 0 0) x1) 81 ((rT ρ) 0 0) x2) 82 ((rT ρ) 0 0) x3) 66 ((rT ρ) 0 0) b0) 67 ((rT ρ) 0 0) ((rT ρ) 1 0)] at hat
    have hW := hW.upR 67 ((rT ρ) 0 0) ((rT ρ) 1 0) rfl rLV5 (rLV5 (ρ := (qup (qup (qup (qup (qup (qup (qup (rT ρ) 64 ((rT ρ) 0 0) s0) 65 ((rT ρ) 0 0) r0) 80 ((rT ρ) 0 0) x1) 81 ((rT ρ) 0 0) x2) 82 ((rT ρ) 0 0) x3) 66 ((rT ρ) 0 0) b0) 67 ((rT ρ) 0 0) ((rT ρ) 1 0)))) hat hoq
    refine lv_aload_n hx hb dX8_addLine_190 rfl (lv_at hl 2 rfl) ?_
    refine q_get (C := RX8) (T := TX8) (N := 36) hx hb hts iRX8 hown hC.1 (hW.to rLV0) rfl 8 (by decide) (hts (.fieldLink RX8 25 "LogWeaveModel" "state" "[C") (List.mem_of_getElem? (i := 9) (by decide +kernel))) rfl (v := .ref (bd 6 0)) rfl dX8_addLine_191 ?_
    refine lv_iload hx hb dX8_addLine_194 (lv_at hl 0 rfl) ?_
    refine lv_bipush (v := nI 107) hx hb dX8_addLine_196 (by decide) ?_
    refine q_cast hx hb hC.1 (hW.to rLV6) (hW.in rLV6) hS 3 rfl (vp_in_nI (n := ((rT ρ) 0 0)) (by omega) (by decide)) dX8_addLine_198 (fun H1 locs hat hsz hoq hS => ?_)
    rw [nI_clamp (n := ((rT ρ) 0 0)) (by omega)] at hat
    rw [show vp_nar .char (nI 107) = nI 107 from by decide] at hat
    rw [r_upd (qup (qup (qup (qup (qup (qup (qup (rT ρ) 64 ((rT ρ) 0 0) s0) 65 ((rT ρ) 0 0) r0) 80 ((rT ρ) 0 0) x1) 81 ((rT ρ) 0 0) x2) 82 ((rT ρ) 0 0) x3) 66 ((rT ρ) 0 0) b0) 67 ((rT ρ) 0 0) ((rT ρ) 1 0)) 69 ((rT ρ) 0 0) 107] at hat
    have hW := hW.upR 69 ((rT ρ) 0 0) 107 rfl rLV6 (rLV6 (ρ := (qup (qup (qup (qup (qup (qup (qup (qup (rT ρ) 64 ((rT ρ) 0 0) s0) 65 ((rT ρ) 0 0) r0) 80 ((rT ρ) 0 0) x1) 81 ((rT ρ) 0 0) x2) 82 ((rT ρ) 0 0) x3) 66 ((rT ρ) 0 0) b0) 67 ((rT ρ) 0 0) ((rT ρ) 1 0)) 69 ((rT ρ) 0 0) 107))) hat hoq
    refine lv_aload_n hx hb dX8_addLine_199 rfl (lv_at hl 2 rfl) ?_
    refine lv_dup hx hb dX8_addLine_200 rfl ?_
    refine q_get (C := RX8) (T := TX8) (N := 36) hx hb hts iRX8 hown hC.1 (hW.to rLV0) rfl 2 (by decide) (hts (.fieldLink RX8 104 "LogWeaveModel" "lines" "I") (List.mem_of_getElem? (i := 2) (by decide +kernel))) rfl (v := .int (nI ((qup (qup (qup (qup (qup (qup (qup (qup (rT ρ) 64 ((rT ρ) 0 0) s0) 65 ((rT ρ) 0 0) r0) 80 ((rT ρ) 0 0) x1) 81 ((rT ρ) 0 0) x2) 82 ((rT ρ) 0 0) x3) 66 ((rT ρ) 0 0) b0) 67 ((rT ρ) 0 0) ((rT ρ) 1 0)) 69 ((rT ρ) 0 0) 107) 0 0))) rfl dX8_addLine_201 ?_
    refine q_ti (y := nI ((rT ρ) 0 0)) rfl ?_
    refine lv_iconst (v := nI 1) hx hb dX8_addLine_204 (by decide) ?_
    refine lv_iadd hx hb dX8_addLine_205 ?_
    refine q_ti (nI_add ((rT ρ) 0 0) 1) ?_
    refine q_put (C := RX8) (T := TX8) (N := 36) (ty := .int) (v := .int (nI (((rT ρ) 0 0) + 1))) hx hb hts iRX8 tyX8 tyX8_ok nmX8 hown hC.1 (hW.to rLV0) (hW.in rLV0) hS rfl 2 (by decide) (hts (.fieldLink RX8 104 "LogWeaveModel" "lines" "I") (List.mem_of_getElem? (i := 2) (by decide +kernel))) rfl rfl (by decide +kernel) rfl rfl (Nat.le_of_ble_eq_true rfl) dX8_addLine_206 (fun H1 locs hat hsz hoq hS => ?_)
    have hW := hW.upR 0 0 (((rT ρ) 0 0) + 1) rfl rLV0 ((rLV0 (ρ := (qup (qup (qup (qup (qup (qup (qup (qup (qup (rT ρ) 64 ((rT ρ) 0 0) s0) 65 ((rT ρ) 0 0) r0) 80 ((rT ρ) 0 0) x1) 81 ((rT ρ) 0 0) x2) 82 ((rT ρ) 0 0) x3) 66 ((rT ρ) 0 0) b0) 67 ((rT ρ) 0 0) ((rT ρ) 1 0)) 69 ((rT ρ) 0 0) 107) 0 0 (((rT ρ) 0 0) + 1)))).trans (by rw [qup_s]; rfl)) hat hoq
    refine lv_aload_n hx hb dX8_addLine_209 rfl (lv_at hl 2 rfl) ?_
    refine lv_iload hx hb dX8_addLine_210 (lv_at hl 0 rfl) ?_
    have hW : rW G A (rLi (rT ρ) s0 r0 x1 x2 x3 b0) bd _ := hW
    have hF2 := rLi_wf hF hs0 hr0 hx1 hx2 hx3 hb0 hn0
    have e64 : (rLi (rT ρ) s0 r0 x1 x2 x3 b0) 64 ((rT ρ) 0 0) = s0 := by show qup (rT ρ) 64 ((rT ρ) 0 0) s0 64 ((rT ρ) 0 0) = s0; exact qup_s _ _ _ _
    have hT2 : rTurns f P O M ((rLi (rT ρ) s0 r0 x1 x2 x3 b0) 64 ((rT ρ) 0 0)) := by rw [e64]; exact hT
    have hFf : rWF (f 0) := by rw [h0]; exact hF2.up 68 _ q0 (by omega) (by decide)
    refine q_wn (va_runV (As := [.int (nI ((rT ρ) 0 0))]) (rest := []) ⟨hx, hb, hml, hown, hts⟩ (m_rreadK l G A (rLi (rT ρ) s0 r0 x1 x2 x3 b0) bd hF2 ((rT ρ) 0 0) q0 M f P O (Nat.lt_succ_self _) hq0 hp0 hlow h0 hT2) (cwV 1 hts gX8_addLine_X8_read rfl rfl rfl (by decide +kernel) ⟨Nat.le_of_ble_eq_true rfl, Nat.le_of_ble_eq_true rfl⟩) ⟨rR.blind, qrecv hC (hW.to rLV0) rfl, rR.pre hC hW⟩ rfl rfl hl.1 rfl (lv_room (Nat.le_of_ble_eq_true rfl)) dX8_addLine_212 ⟨Nat.le_of_ble_eq_true rfl, Nat.le_of_ble_eq_true rfl⟩) hS (fun _ h => h) (fun _ h => h) (fun H1 locs hW hz hk hS => ?_)
    obtain ⟨hFM, hfM⟩ := rTurns_ok hT hFf M (Nat.le_refl _)
    have hM2 : f M 0 2 = (rT ρ) 0 2 := by rw [hfM 0 2 (by decide) (by decide) (by decide), h0]; rfl
    have hM3 : f M 0 3 = (rT ρ) 0 3 := by rw [hfM 0 3 (by decide) (by decide) (by decide), h0]; rfl
    have hLs := rLs_ok hFM (by omega)
    refine lv_iconst (v := nI 0) hx hb dX8_addLine_215 (by decide) ?_
    refine lv_istore (lv' := [(9, .int (nI 0)), (8, .int (nI ((rT ρ) 0 0))), (7, .int (nI 1)), (0, .ref (bd 0 0)), (1, .int (nI s0)), (2, .int (nI r0)), (3, .int (nI x1)), (4, .int (nI x2)), (5, .int (nI x3)), (6, .int (nI b0))]) hx hb dX8_addLine_216 hl (by decide) rfl (fun ls hl => ?_)
    refine q_up ((rT ρ) 0 2) (fun i H locs ls => rW G A (rLs (f M) i) bd H ∧ va_S A s.heap H locs ∧ lv_has ls 10 [(0, .ref (bd 0 0)), (1, .int (nI s0)), (8, .int (nI ((rT ρ) 0 0))), (9, .int (nI i))]) ?_ ?_ (i0 := 0) (Nat.zero_le _) ⟨hW, hS, lv_sub hl [3, 4, 1, 0] rfl⟩
    · rintro H locs ls ⟨hW, hS, hl⟩
      obtain ⟨hFi, hgi, h3i⟩ := hLs ((rT ρ) 0 2) (by omega)
      have hg2 := hgi 2 (by decide)
      refine lv_iload hx hb dX8_addLine_218 (lv_at hl 3 rfl) ?_
      refine lv_aload_n hx hb dX8_addLine_220 rfl (lv_at hl 0 rfl) ?_
      refine q_get (C := RX8) (T := TX8) (N := 36) hx hb hts iRX8 hown hC.1 (hW.to rLV0) rfl 14 (by decide) (hts (.fieldLink RX8 114 "LogWeaveModel" "alerts" "I") (List.mem_of_getElem? (i := 10) (by decide +kernel))) rfl (v := .int (nI ((rLs (f M) ((rT ρ) 0 2)) 0 2))) rfl dX8_addLine_221 ?_
      refine q_ti (y := nI ((rT ρ) 0 2)) (by rw [hg2, hM2]) ?_
      refine q_ge (tgt := 239) hx hb (by omega) (by omega) dX8_addLine_224 (by decide) (fun g11 => ?_) (fun g11 => (by omega))
      refine lv_aload_n hx hb dX8_addLine_239 rfl (lv_at hl 0 rfl) ?_
      refine lv_iload_n hx hb dX8_addLine_240 rfl (lv_at hl 1 rfl) ?_
      refine q_wv (va_runV (As := [.int (nI s0)]) (rest := []) ⟨hx, hb, hml, hown, hts⟩ (m_rdrops l G A (rLs (f M) ((rT ρ) 0 2)) bd hFi s0 N hs0 hN) (cwV 1 hts gX8_addLine_X8_drops rfl rfl rfl (by decide +kernel) ⟨Nat.le_of_ble_eq_true rfl, Nat.le_of_ble_eq_true rfl⟩) ⟨rR.blind, qrecv hC (hW.to rLV0) rfl, rR.pre hC hW⟩ rfl rfl hl.1 rfl (lv_room (Nat.le_of_ble_eq_true rfl)) dX8_addLine_241 ⟨Nat.le_of_ble_eq_true rfl, Nat.le_of_ble_eq_true rfl⟩) hS (fun _ h => h) (fun _ h => h) (fun H1 locs hW hz hk hS => ?_)
      refine lv_pop hx hb dX8_addLine_244 rfl ?_
      refine lv_iload hx hb dX8_addLine_245 (lv_at hl 2 rfl) ?_
      exact W.iret hx hb hr (fun t ht _ => ⟨rfl, by rw [ht]; exact hW, hS.F ht⟩) hS.2.2 dX8_addLine_247
    · rintro i H locs ls hi ⟨hW, hS, hl⟩ ih
      obtain ⟨hFi, hgi, h3i⟩ := hLs i (by omega)
      have hg2 := hgi 2 (by decide)
      refine lv_iload hx hb dX8_addLine_218 (lv_at hl 3 rfl) ?_
      refine lv_aload_n hx hb dX8_addLine_220 rfl (lv_at hl 0 rfl) ?_
      refine q_get (C := RX8) (T := TX8) (N := 36) hx hb hts iRX8 hown hC.1 (hW.to rLV0) rfl 14 (by decide) (hts (.fieldLink RX8 114 "LogWeaveModel" "alerts" "I") (List.mem_of_getElem? (i := 10) (by decide +kernel))) rfl (v := .int (nI ((rLs (f M) i) 0 2))) rfl dX8_addLine_221 ?_
      refine q_ti (y := nI ((rT ρ) 0 2)) (by rw [hg2, hM2]) ?_
      refine q_ge (tgt := 239) hx hb (by omega) (by omega) dX8_addLine_224 (by decide) (fun g12 => (by omega)) (fun g12 => ?_)
      refine lv_aload_n hx hb dX8_addLine_227 rfl (lv_at hl 0 rfl) ?_
      refine lv_iload hx hb dX8_addLine_228 (lv_at hl 3 rfl) ?_
      refine q_wn (va_runV (As := [.int (nI i)]) (rest := []) ⟨hx, hb, hml, hown, hts⟩ (m_rlook l G A (rLs (f M) i) bd hFi i (by omega) (fun _ _ => by omega)) (cwV 1 hts gX8_addLine_X8_look rfl rfl rfl (by decide +kernel) ⟨Nat.le_of_ble_eq_true rfl, Nat.le_of_ble_eq_true rfl⟩) ⟨rR.blind, qrecv hC (hW.to rLV0) rfl, rR.pre hC hW⟩ rfl rfl hl.1 rfl (lv_room (Nat.le_of_ble_eq_true rfl)) dX8_addLine_230 ⟨Nat.le_of_ble_eq_true rfl, Nat.le_of_ble_eq_true rfl⟩) hS (fun _ h => h) (fun _ h => h) (fun H1 locs hW hz hk hS => ?_)
      refine lv_iinc (v := nI (i + 1)) (lv' := [(9, .int (nI (i + 1))), (0, .ref (bd 0 0)), (1, .int (nI s0)), (8, .int (nI ((rT ρ) 0 0)))]) hx hb dX8_addLine_233 hl (k := 3) rfl (nI_1 i) (by decide) rfl (fun ls hl => ?_)
      refine lv_goto (tgt := 218) hx hb dX8_addLine_236 (by decide) ?_
      exact ih _ _ ls ⟨hW, hS, lv_sub hl [1, 2, 3, 0] rfl⟩
  · skip
    refine lv_iconst (v := nI 1) hx hb dX8_addLine_98 (by decide) ?_
    refine lv_goto (tgt := 103) hx hb dX8_addLine_99 (by decide) ?_
    refine lv_iconst (v := nI 2) hx hb dX8_addLine_103 (by decide) ?_
    omega
set_option maxHeartbeats 4000000 in
set_option maxRecDepth 100000 in
theorem m_raddLineL (l : Launch) (G : QG) (A : Nat → Prop) (ρ bd : QSt) (hF : rWF (rT ρ)) (s0 r0 x1 x2 x3 b0 M N : Nat) (hs0 : s0 < 4) (hr0 : r0 < 5) (hx1 : x1 < 100) (hx2 : x2 < 100) (hx3 : x3 < 100) (hb0 : 1 ≤ b0 ∧ b0 ≤ 99) (hn0 : (rT ρ) 0 0 < 200) (h13 : (rT ρ) 0 3 + 6 ≤ 1300) (f : Nat → QSt) (P O : Nat → Nat) (hnone : ∀ p, p < (rT ρ) 0 1 → ¬ rP (rLi (rT ρ) s0 r0 x1 x2 x3 b0) ((rT ρ) 0 0) p) (hn1 : (rT ρ) 0 1 < 200) (h0 : f 0 = (qup (rLr (rLi (rT ρ) s0 r0 x1 x2 x3 b0) ((rT ρ) 0 0)) 68 ((rT ρ) 0 0) ((rLi (rT ρ) s0 r0 x1 x2 x3 b0) 0 1))) (hT : rTurns f P O M s0) (hN : rDrp (rLs (f M) ((rT ρ) 0 2)) s0 N) : Met l yX8_addLine wsX8_addLine ({ frames := 3, cells := 0, slots := 0, locals := 74 } : Room) (rR G A ρ bd [.ref (bd 0 0), .int (nI s0), .int (nI r0), .int (nI x1), .int (nI x2), .int (nI x3), .int (nI b0)]) (qWV (some (.int (nI ((rT ρ) 0 0)))) (rW G A (rDs (rLs (f M) ((rT ρ) 0 2)) s0 N) bd) A) 0 0 A := by
  refine Met.ofW (cc := cX8_addLine) (maxL := 10) (ret := (some .int)) (by decide) rfl ?_
  intro p e s m args below meth c s₁ B hml hv
  obtain ⟨rfl, hC, hW⟩ := hv
  have hx := B.exec
  have hb := B.bytes
  have hr := B.returns
  have hts := atoms_spec (ws := wsX8_addLine) B.pre
  have hown : s.vm.findClass RX8 = some m.cls := findClass_of_methodNamed B.named
  have hlocks := B.notSynchronized
  have hB := hF.1
  have hn := hF.n
  have hS : va_S A s.heap s.heap [] := va_S.rf
  have hl := lv_entry ([.ref (bd 0 0), .int (nI s0), .int (nI r0), .int (nI x1), .int (nI x2), .int (nI x3), .int (nI b0)]) (n := 10) (Nat.le_of_ble_eq_true rfl)
  rw [lg_entry_eq]
  generalize (lg_sl ([.ref (bd 0 0), .int (nI s0), .int (nI r0), .int (nI x1), .int (nI x2), .int (nI x3), .int (nI b0)]) ++ List.replicate (10 - (lg_sl ([.ref (bd 0 0), .int (nI s0), .int (nI r0), .int (nI x1), .int (nI x2), .int (nI x3), .int (nI b0)])).length) Slot.unset).toArray = ls at hl ⊢
  have hl : lv_has ls 10 [(0, .ref (bd 0 0)), (1, .int (nI s0)), (2, .int (nI r0)), (3, .int (nI x1)), (4, .int (nI x2)), (5, .int (nI x3)), (6, .int (nI b0))] := hl
  have iRX8 : ∀ w ∈ wsX80, w ∈ wsX8_addLine := by decide +kernel
  refine lv_aload_n hx hb dX8_addLine_0 rfl (lv_at hl 0 rfl) ?_
  refine lv_iconst (v := nI 0) hx hb dX8_addLine_1 (by decide) ?_
  refine q_put (C := RX8) (T := TX8) (N := 36) (ty := .int) (v := .int (nI 0)) hx hb hts iRX8 tyX8 tyX8_ok nmX8 hown hC.1 (hW.to rLV0) (hW.in rLV0) hS rfl 0 (by decide) (hts (.fieldLink RX8 100 "LogWeaveModel" "thrown" "I") (List.mem_of_getElem? (i := 1) (by decide +kernel))) rfl rfl (by decide +kernel) rfl rfl (Nat.le_of_ble_eq_true rfl) dX8_addLine_2 (fun H1 locs hat hsz hoq hS => ?_)
  have hW := hW.upR 2 0 0 rfl rLV0 ((rLV0 (ρ := (qup ρ 2 0 0))).trans (by rw [qup_s]; rfl)) hat hoq
  have hW : rW G A (rT ρ) bd _ := hW
  refine lv_iload_n hx hb dX8_addLine_5 rfl (lv_at hl 1 rfl) ?_
  refine q_v (va_runS (As := [.int (nI s0)]) (rest := []) ⟨hx, hb, hml, hown, hts⟩ (m_risSource l (nI s0)) (va_cwS 1 hts gX8_addLine_X8_isSource rfl rfl rfl (by decide +kernel) ⟨Nat.le_of_ble_eq_true rfl, Nat.le_of_ble_eq_true rfl⟩) ⟨qU.blind, qU.pre⟩ rfl rfl hl.1 rfl (lv_room (Nat.le_of_ble_eq_true rfl)) dX8_addLine_6 ⟨Nat.le_of_ble_eq_true rfl, Nat.le_of_ble_eq_true rfl⟩) hS (fun _ h => h.elim) (fun locs hS => ?_)
  refine q_ti (y := nI 1) (by rw [qB_t ⟨nI_le (by omega) (by omega), nI_le (by omega) (by decide)⟩]) ?_
  refine q_eq0 (tgt := 66) hx hb (by decide) dX8_addLine_9 (by decide) (fun g1 => (by omega)) (fun g1 => ?_)
  refine lv_iload_n hx hb dX8_addLine_12 rfl (lv_at hl 2 rfl) ?_
  refine q_v (va_runS (As := [.int (nI r0)]) (rest := []) ⟨hx, hb, hml, hown, hts⟩ (m_risRank l (nI r0)) (va_cwS 1 hts gX8_addLine_X8_isRank rfl rfl rfl (by decide +kernel) ⟨Nat.le_of_ble_eq_true rfl, Nat.le_of_ble_eq_true rfl⟩) ⟨qU.blind, qU.pre⟩ rfl rfl hl.1 rfl (lv_room (Nat.le_of_ble_eq_true rfl)) dX8_addLine_13 ⟨Nat.le_of_ble_eq_true rfl, Nat.le_of_ble_eq_true rfl⟩) hS (fun _ h => h.elim) (fun locs hS => ?_)
  refine q_ti (y := nI 1) (by rw [qB_t ⟨nI_le (by omega) (by omega), nI_le (by omega) (by decide)⟩]) ?_
  refine q_eq0 (tgt := 66) hx hb (by decide) dX8_addLine_16 (by decide) (fun g2 => (by omega)) (fun g2 => ?_)
  refine lv_iload_n hx hb dX8_addLine_19 rfl (lv_at hl 3 rfl) ?_
  refine lv_iconst (v := nI 0) hx hb dX8_addLine_20 (by decide) ?_
  refine lv_bipush (v := nI 99) hx hb dX8_addLine_21 (by decide) ?_
  refine q_v (va_runS (As := [.int (nI x1), .int (nI 0), .int (nI 99)]) (rest := []) ⟨hx, hb, hml, hown, hts⟩ (m_rin l (nI x1) (nI 0) (nI 99)) (va_cwS 3 hts gX8_addLine_X8_in rfl rfl rfl (by decide +kernel) ⟨Nat.le_of_ble_eq_true rfl, Nat.le_of_ble_eq_true rfl⟩) ⟨qU.blind, qU.pre⟩ rfl rfl hl.1 rfl (lv_room (Nat.le_of_ble_eq_true rfl)) dX8_addLine_23 ⟨Nat.le_of_ble_eq_true rfl, Nat.le_of_ble_eq_true rfl⟩) hS (fun _ h => h.elim) (fun locs hS => ?_)
  refine q_ti (y := nI 1) (by rw [qB_t ⟨nI_le (by omega) (by omega), nI_le (by omega) (by decide)⟩]) ?_
  refine q_eq0 (tgt := 66) hx hb (by decide) dX8_addLine_26 (by decide) (fun g3 => (by omega)) (fun g3 => ?_)
  refine lv_iload hx hb dX8_addLine_29 (lv_at hl 4 rfl) ?_
  refine lv_iconst (v := nI 0) hx hb dX8_addLine_31 (by decide) ?_
  refine lv_bipush (v := nI 99) hx hb dX8_addLine_32 (by decide) ?_
  refine q_v (va_runS (As := [.int (nI x2), .int (nI 0), .int (nI 99)]) (rest := []) ⟨hx, hb, hml, hown, hts⟩ (m_rin l (nI x2) (nI 0) (nI 99)) (va_cwS 3 hts gX8_addLine_X8_in rfl rfl rfl (by decide +kernel) ⟨Nat.le_of_ble_eq_true rfl, Nat.le_of_ble_eq_true rfl⟩) ⟨qU.blind, qU.pre⟩ rfl rfl hl.1 rfl (lv_room (Nat.le_of_ble_eq_true rfl)) dX8_addLine_34 ⟨Nat.le_of_ble_eq_true rfl, Nat.le_of_ble_eq_true rfl⟩) hS (fun _ h => h.elim) (fun locs hS => ?_)
  refine q_ti (y := nI 1) (by rw [qB_t ⟨nI_le (by omega) (by omega), nI_le (by omega) (by decide)⟩]) ?_
  refine q_eq0 (tgt := 66) hx hb (by decide) dX8_addLine_37 (by decide) (fun g4 => (by omega)) (fun g4 => ?_)
  refine lv_iload hx hb dX8_addLine_40 (lv_at hl 5 rfl) ?_
  refine lv_iconst (v := nI 0) hx hb dX8_addLine_42 (by decide) ?_
  refine lv_bipush (v := nI 99) hx hb dX8_addLine_43 (by decide) ?_
  refine q_v (va_runS (As := [.int (nI x3), .int (nI 0), .int (nI 99)]) (rest := []) ⟨hx, hb, hml, hown, hts⟩ (m_rin l (nI x3) (nI 0) (nI 99)) (va_cwS 3 hts gX8_addLine_X8_in rfl rfl rfl (by decide +kernel) ⟨Nat.le_of_ble_eq_true rfl, Nat.le_of_ble_eq_true rfl⟩) ⟨qU.blind, qU.pre⟩ rfl rfl hl.1 rfl (lv_room (Nat.le_of_ble_eq_true rfl)) dX8_addLine_45 ⟨Nat.le_of_ble_eq_true rfl, Nat.le_of_ble_eq_true rfl⟩) hS (fun _ h => h.elim) (fun locs hS => ?_)
  refine q_ti (y := nI 1) (by rw [qB_t ⟨nI_le (by omega) (by omega), nI_le (by omega) (by decide)⟩]) ?_
  refine q_eq0 (tgt := 66) hx hb (by decide) dX8_addLine_48 (by decide) (fun g5 => (by omega)) (fun g5 => ?_)
  refine lv_iload hx hb dX8_addLine_51 (lv_at hl 6 rfl) ?_
  refine lv_iconst (v := nI 1) hx hb dX8_addLine_53 (by decide) ?_
  refine lv_bipush (v := nI 99) hx hb dX8_addLine_54 (by decide) ?_
  refine q_v (va_runS (As := [.int (nI b0), .int (nI 1), .int (nI 99)]) (rest := []) ⟨hx, hb, hml, hown, hts⟩ (m_rin l (nI b0) (nI 1) (nI 99)) (va_cwS 3 hts gX8_addLine_X8_in rfl rfl rfl (by decide +kernel) ⟨Nat.le_of_ble_eq_true rfl, Nat.le_of_ble_eq_true rfl⟩) ⟨qU.blind, qU.pre⟩ rfl rfl hl.1 rfl (lv_room (Nat.le_of_ble_eq_true rfl)) dX8_addLine_56 ⟨Nat.le_of_ble_eq_true rfl, Nat.le_of_ble_eq_true rfl⟩) hS (fun _ h => h.elim) (fun locs hS => ?_)
  refine q_ti (y := nI 1) (by rw [qB_t ⟨nI_le (by omega) (by omega), nI_le (by omega) (by decide)⟩]) ?_
  refine q_eq0 (tgt := 66) hx hb (by decide) dX8_addLine_59 (by decide) (fun g6 => (by omega)) (fun g6 => ?_)
  refine lv_iconst (v := nI 1) hx hb dX8_addLine_62 (by decide) ?_
  refine lv_goto (tgt := 67) hx hb dX8_addLine_63 (by decide) ?_
  refine lv_istore (lv' := [(7, .int (nI 1)), (0, .ref (bd 0 0)), (1, .int (nI s0)), (2, .int (nI r0)), (3, .int (nI x1)), (4, .int (nI x2)), (5, .int (nI x3)), (6, .int (nI b0))]) hx hb dX8_addLine_67 hl (by decide) rfl (fun ls hl => ?_)
  refine lv_aload_n hx hb dX8_addLine_69 rfl (lv_at hl 1 rfl) ?_
  refine lv_iload hx hb dX8_addLine_70 (lv_at hl 0 rfl) ?_
  refine q_ne0 (tgt := 79) hx hb (by decide) dX8_addLine_72 (by decide) (fun g7 => ?_) (fun g7 => (by omega))
  refine lv_iconst (v := nI 0) hx hb dX8_addLine_79 (by decide) ?_
  refine lv_iconst (v := nI 1) hx hb dX8_addLine_80 (by decide) ?_
  refine q_v (va_runV (As := [.int (nI 0), .int (nI 1)]) (rest := []) ⟨hx, hb, hml, hown, hts⟩ (m_rfails0 l G A (rT ρ) bd hF 1 (rT_0 ρ)) (cwV 2 hts gX8_addLine_X8_fails rfl rfl rfl (by decide +kernel) ⟨Nat.le_of_ble_eq_true rfl, Nat.le_of_ble_eq_true rfl⟩) ⟨rR.blind, qrecv hC (hW.to rLV0) rfl, rR.pre hC hW⟩ rfl rfl hl.1 rfl (lv_room (Nat.le_of_ble_eq_true rfl)) dX8_addLine_81 ⟨Nat.le_of_ble_eq_true rfl, Nat.le_of_ble_eq_true rfl⟩) hS (fun _ h => h.elim) (fun locs hS => ?_)
  refine q_ne0 (tgt := 110) hx hb (by decide) dX8_addLine_84 (by decide) (fun g8 => (by omega)) (fun g8 => ?_)
  refine lv_aload_n hx hb dX8_addLine_87 rfl (lv_at hl 1 rfl) ?_
  refine lv_aload_n hx hb dX8_addLine_88 rfl (lv_at hl 1 rfl) ?_
  refine q_get (C := RX8) (T := TX8) (N := 36) hx hb hts iRX8 hown hC.1 (hW.to rLV0) rfl 2 (by decide) (hts (.fieldLink RX8 104 "LogWeaveModel" "lines" "I") (List.mem_of_getElem? (i := 2) (by decide +kernel))) rfl (v := .int (nI ((rT ρ) 0 0))) rfl dX8_addLine_89 ?_
  refine q_ti (y := nI ((rT ρ) 0 0)) rfl ?_
  refine lv_sipush (v := nI 200) hx hb dX8_addLine_92 (by decide) ?_
  refine q_ne (tgt := 102) hx hb (q31 (hB _ _)) (by decide) dX8_addLine_95 (by decide) (fun g9 => ?_) (fun g9 => ?_)
  · skip
    refine lv_iconst (v := nI 0) hx hb dX8_addLine_102 (by decide) ?_
    refine lv_iconst (v := nI 2) hx hb dX8_addLine_103 (by decide) ?_
    refine q_v (va_runV (As := [.int (nI 0), .int (nI 2)]) (rest := []) ⟨hx, hb, hml, hown, hts⟩ (m_rfails0 l G A (rT ρ) bd hF 2 (rT_0 ρ)) (cwV 2 hts gX8_addLine_X8_fails rfl rfl rfl (by decide +kernel) ⟨Nat.le_of_ble_eq_true rfl, Nat.le_of_ble_eq_true rfl⟩) ⟨rR.blind, qrecv hC (hW.to rLV0) rfl, rR.pre hC hW⟩ rfl rfl hl.1 rfl (lv_room (Nat.le_of_ble_eq_true rfl)) dX8_addLine_104 ⟨Nat.le_of_ble_eq_true rfl, Nat.le_of_ble_eq_true rfl⟩) hS (fun _ h => h.elim) (fun locs hS => ?_)
    refine q_eq0 (tgt := 112) hx hb (by decide) dX8_addLine_107 (by decide) (fun g10 => ?_) (fun g10 => (by omega))
    refine lv_aload_n hx hb dX8_addLine_112 rfl (lv_at hl 1 rfl) ?_
    refine q_get (C := RX8) (T := TX8) (N := 36) hx hb hts iRX8 hown hC.1 (hW.to rLV0) rfl 2 (by decide) (hts (.fieldLink RX8 104 "LogWeaveModel" "lines" "I") (List.mem_of_getElem? (i := 2) (by decide +kernel))) rfl (v := .int (nI ((rT ρ) 0 0))) rfl dX8_addLine_113 ?_
    refine q_ti (y := nI ((rT ρ) 0 0)) rfl ?_
    refine lv_istore (lv' := [(8, .int (nI ((rT ρ) 0 0))), (7, .int (nI 1)), (0, .ref (bd 0 0)), (1, .int (nI s0)), (2, .int (nI r0)), (3, .int (nI x1)), (4, .int (nI x2)), (5, .int (nI x3)), (6, .int (nI b0))]) hx hb dX8_addLine_116 hl (by decide) rfl (fun ls hl => ?_)
    refine lv_aload_n hx hb dX8_addLine_118 rfl (lv_at hl 2 rfl) ?_
    refine q_get (C := RX8) (T := TX8) (N := 36) hx hb hts iRX8 hown hC.1 (hW.to rLV0) rfl 3 (by decide) (hts (.fieldLink RX8 7 "LogWeaveModel" "source" "[I") (List.mem_of_getElem? (i := 3) (by decide +kernel))) rfl (v := .ref (bd 1 0)) rfl dX8_addLine_119 ?_
    refine lv_iload hx hb dX8_addLine_122 (lv_at hl 0 rfl) ?_
    refine lv_iload_n hx hb dX8_addLine_124 rfl (lv_at hl 3 rfl) ?_
    refine q_iast hx hb hC.1 (hW.to rLV1) (hW.in rLV1) hS 1 rfl (vp_in_nI (n := ((rT ρ) 0 0)) (by omega) (by decide)) dX8_addLine_125 (fun H1 locs hat hsz hoq hS => ?_)
    rw [nI_clamp (n := ((rT ρ) 0 0)) (by omega)] at hat
    rw [r_upd (rT ρ) 64 ((rT ρ) 0 0) s0] at hat
    have hW := hW.upR 64 ((rT ρ) 0 0) s0 rfl rLV1 (rLV1 (ρ := (qup (rT ρ) 64 ((rT ρ) 0 0) s0))) hat hoq
    refine lv_aload_n hx hb dX8_addLine_126 rfl (lv_at hl 2 rfl) ?_
    refine q_get (C := RX8) (T := TX8) (N := 36) hx hb hts iRX8 hown hC.1 (hW.to rLV0) rfl 4 (by decide) (hts (.fieldLink RX8 13 "LogWeaveModel" "rank" "[I") (List.mem_of_getElem? (i := 4) (by decide +kernel))) rfl (v := .ref (bd 2 0)) rfl dX8_addLine_127 ?_
    refine lv_iload hx hb dX8_addLine_130 (lv_at hl 0 rfl) ?_
    refine lv_iload_n hx hb dX8_addLine_132 rfl (lv_at hl 4 rfl) ?_
    refine q_iast hx hb hC.1 (hW.to rLV2) (hW.in rLV2) hS 1 rfl (vp_in_nI (n := ((rT ρ) 0 0)) (by omega) (by decide)) dX8_addLine_133 (fun H1 locs hat hsz hoq hS => ?_)
    rw [nI_clamp (n := ((rT ρ) 0 0)) (by omega)] at hat
    rw [r_upd (qup (rT ρ) 64 ((rT ρ) 0 0) s0) 65 ((rT ρ) 0 0) r0] at hat
    have hW := hW.upR 65 ((rT ρ) 0 0) r0 rfl rLV2 (rLV2 (ρ := (qup (qup (rT ρ) 64 ((rT ρ) 0 0) s0) 65 ((rT ρ) 0 0) r0))) hat hoq
    refine lv_aload_n hx hb dX8_addLine_134 rfl (lv_at hl 2 rfl) ?_
    refine q_get (C := RX8) (T := TX8) (N := 36) hx hb hts iRX8 hown hC.1 (hW.to rLV0) rfl 5 (by decide) (hts (.fieldLink RX8 16 "LogWeaveModel" "word" "[I") (List.mem_of_getElem? (i := 5) (by decide +kernel))) rfl (v := .ref (bd 3 0)) rfl dX8_addLine_135 ?_
    refine lv_iconst (v := nI 3) hx hb dX8_addLine_138 (by decide) ?_
    refine lv_iload hx hb dX8_addLine_139 (lv_at hl 0 rfl) ?_
    refine lv_imul hx hb dX8_addLine_141 ?_
    refine q_ti (pk_mul 3 ((rT ρ) 0 0)) ?_
    refine lv_iload_n hx hb dX8_addLine_142 rfl (lv_at hl 5 rfl) ?_
    refine q_iast hx hb hC.1 (hW.to rLV3) (hW.in rLV3) hS 1 rfl (vp_in_nI (n := (3 * ((rT ρ) 0 0))) (by omega) (by decide)) dX8_addLine_143 (fun H1 locs hat hsz hoq hS => ?_)
    rw [nI_clamp (n := (3 * ((rT ρ) 0 0))) (by omega)] at hat
    have hat : va_at G.1 vwCl (bd 3 0, .inl (G.2 1, 600, .inl (upd (fun j => nI ((qup (qup (rT ρ) 64 ((rT ρ) 0 0) s0) 65 ((rT ρ) 0 0) r0) (80 + j % 3) (j / 3))) (3 * ((rT ρ) 0 0) + 0) (nI x1)))) H1 := hat
    rw [r_upd3 (qup (qup (rT ρ) 64 ((rT ρ) 0 0) s0) 65 ((rT ρ) 0 0) r0) 80 ((rT ρ) 0 0) 0 x1 (by omega)] at hat
    have hW := hW.upR 80 ((rT ρ) 0 0) x1 rfl rLV3 (rLV3 (ρ := (qup (qup (qup (rT ρ) 64 ((rT ρ) 0 0) s0) 65 ((rT ρ) 0 0) r0) 80 ((rT ρ) 0 0) x1))) hat hoq
    refine lv_aload_n hx hb dX8_addLine_144 rfl (lv_at hl 2 rfl) ?_
    refine q_get (C := RX8) (T := TX8) (N := 36) hx hb hts iRX8 hown hC.1 (hW.to rLV0) rfl 5 (by decide) (hts (.fieldLink RX8 16 "LogWeaveModel" "word" "[I") (List.mem_of_getElem? (i := 5) (by decide +kernel))) rfl (v := .ref (bd 3 0)) rfl dX8_addLine_145 ?_
    refine lv_iconst (v := nI 3) hx hb dX8_addLine_148 (by decide) ?_
    refine lv_iload hx hb dX8_addLine_149 (lv_at hl 0 rfl) ?_
    refine lv_imul hx hb dX8_addLine_151 ?_
    refine q_ti (pk_mul 3 ((rT ρ) 0 0)) ?_
    refine lv_iconst (v := nI 1) hx hb dX8_addLine_152 (by decide) ?_
    refine lv_iadd hx hb dX8_addLine_153 ?_
    refine q_ti (nI_add (3 * ((rT ρ) 0 0)) 1) ?_
    refine lv_iload hx hb dX8_addLine_154 (lv_at hl 6 rfl) ?_
    refine q_iast hx hb hC.1 (hW.to rLV3) (hW.in rLV3) hS 1 rfl (vp_in_nI (n := ((3 * ((rT ρ) 0 0)) + 1)) (by omega) (by decide)) dX8_addLine_156 (fun H1 locs hat hsz hoq hS => ?_)
    rw [nI_clamp (n := ((3 * ((rT ρ) 0 0)) + 1)) (by omega)] at hat
    rw [r_upd3 (qup (qup (qup (rT ρ) 64 ((rT ρ) 0 0) s0) 65 ((rT ρ) 0 0) r0) 80 ((rT ρ) 0 0) x1) 80 ((rT ρ) 0 0) 1 x2 (by omega)] at hat
    have hW := hW.upR 81 ((rT ρ) 0 0) x2 rfl rLV3 (rLV3 (ρ := (qup (qup (qup (qup (rT ρ) 64 ((rT ρ) 0 0) s0) 65 ((rT ρ) 0 0) r0) 80 ((rT ρ) 0 0) x1) 81 ((rT ρ) 0 0) x2))) hat hoq
    refine lv_aload_n hx hb dX8_addLine_157 rfl (lv_at hl 2 rfl) ?_
    refine q_get (C := RX8) (T := TX8) (N := 36) hx hb hts iRX8 hown hC.1 (hW.to rLV0) rfl 5 (by decide) (hts (.fieldLink RX8 16 "LogWeaveModel" "word" "[I") (List.mem_of_getElem? (i := 5) (by decide +kernel))) rfl (v := .ref (bd 3 0)) rfl dX8_addLine_158 ?_
    refine lv_iconst (v := nI 3) hx hb dX8_addLine_161 (by decide) ?_
    refine lv_iload hx hb dX8_addLine_162 (lv_at hl 0 rfl) ?_
    refine lv_imul hx hb dX8_addLine_164 ?_
    refine q_ti (pk_mul 3 ((rT ρ) 0 0)) ?_
    refine lv_iconst (v := nI 2) hx hb dX8_addLine_165 (by decide) ?_
    refine lv_iadd hx hb dX8_addLine_166 ?_
    refine q_ti (nI_add (3 * ((rT ρ) 0 0)) 2) ?_
    refine lv_iload hx hb dX8_addLine_167 (lv_at hl 7 rfl) ?_
    refine q_iast hx hb hC.1 (hW.to rLV3) (hW.in rLV3) hS 1 rfl (vp_in_nI (n := ((3 * ((rT ρ) 0 0)) + 2)) (by omega) (by decide)) dX8_addLine_169 (fun H1 locs hat hsz hoq hS => ?_)
    rw [nI_clamp (n := ((3 * ((rT ρ) 0 0)) + 2)) (by omega)] at hat
    rw [r_upd3 (qup (qup (qup (qup (rT ρ) 64 ((rT ρ) 0 0) s0) 65 ((rT ρ) 0 0) r0) 80 ((rT ρ) 0 0) x1) 81 ((rT ρ) 0 0) x2) 80 ((rT ρ) 0 0) 2 x3 (by omega)] at hat
    have hW := hW.upR 82 ((rT ρ) 0 0) x3 rfl rLV3 (rLV3 (ρ := (qup (qup (qup (qup (qup (rT ρ) 64 ((rT ρ) 0 0) s0) 65 ((rT ρ) 0 0) r0) 80 ((rT ρ) 0 0) x1) 81 ((rT ρ) 0 0) x2) 82 ((rT ρ) 0 0) x3))) hat hoq
    refine lv_aload_n hx hb dX8_addLine_170 rfl (lv_at hl 2 rfl) ?_
    refine q_get (C := RX8) (T := TX8) (N := 36) hx hb hts iRX8 hown hC.1 (hW.to rLV0) rfl 6 (by decide) (hts (.fieldLink RX8 19 "LogWeaveModel" "bytes" "[I") (List.mem_of_getElem? (i := 6) (by decide +kernel))) rfl (v := .ref (bd 4 0)) rfl dX8_addLine_171 ?_
    refine lv_iload hx hb dX8_addLine_174 (lv_at hl 0 rfl) ?_
    refine lv_iload hx hb dX8_addLine_176 (lv_at hl 8 rfl) ?_
    refine q_iast hx hb hC.1 (hW.to rLV4) (hW.in rLV4) hS 1 rfl (vp_in_nI (n := ((rT ρ) 0 0)) (by omega) (by decide)) dX8_addLine_178 (fun H1 locs hat hsz hoq hS => ?_)
    rw [nI_clamp (n := ((rT ρ) 0 0)) (by omega)] at hat
    rw [r_upd (qup (qup (qup (qup (qup (rT ρ) 64 ((rT ρ) 0 0) s0) 65 ((rT ρ) 0 0) r0) 80 ((rT ρ) 0 0) x1) 81 ((rT ρ) 0 0) x2) 82 ((rT ρ) 0 0) x3) 66 ((rT ρ) 0 0) b0] at hat
    have hW := hW.upR 66 ((rT ρ) 0 0) b0 rfl rLV4 (rLV4 (ρ := (qup (qup (qup (qup (qup (qup (rT ρ) 64 ((rT ρ) 0 0) s0) 65 ((rT ρ) 0 0) r0) 80 ((rT ρ) 0 0) x1) 81 ((rT ρ) 0 0) x2) 82 ((rT ρ) 0 0) x3) 66 ((rT ρ) 0 0) b0))) hat hoq
    refine lv_aload_n hx hb dX8_addLine_179 rfl (lv_at hl 2 rfl) ?_
    refine q_get (C := RX8) (T := TX8) (N := 36) hx hb hts iRX8 hown hC.1 (hW.to rLV0) rfl 7 (by decide) (hts (.fieldLink RX8 22 "LogWeaveModel" "came" "[I") (List.mem_of_getElem? (i := 7) (by decide +kernel))) rfl (v := .ref (bd 5 0)) rfl dX8_addLine_180 ?_
    refine lv_iload hx hb dX8_addLine_183 (lv_at hl 0 rfl) ?_
    refine lv_aload_n hx hb dX8_addLine_185 rfl (lv_at hl 2 rfl) ?_
    refine q_get (C := RX8) (T := TX8) (N := 36) hx hb hts iRX8 hown hC.1 (hW.to rLV0) rfl 1 (by decide) (hts (.fieldLink RX8 132 "LogWeaveModel" "tick" "I") (List.mem_of_getElem? (i := 8) (by decide +kernel))) rfl (v := .int (nI ((qup (qup (qup (qup (qup (qup (rT ρ) 64 ((rT ρ) 0 0) s0) 65 ((rT ρ) 0 0) r0) 80 ((rT ρ) 0 0) x1) 81 ((rT ρ) 0 0) x2) 82 ((rT ρ) 0 0) x3) 66 ((rT ρ) 0 0) b0) 1 0))) rfl dX8_addLine_186 ?_
    refine q_ti (y := nI ((rT ρ) 1 0)) rfl ?_
    refine q_iast hx hb hC.1 (hW.to rLV5) (hW.in rLV5) hS 1 rfl (vp_in_nI (n := ((rT ρ) 0 0)) (by omega) (by decide)) dX8_addLine_189 (fun H1 locs hat hsz hoq hS => ?_)
    rw [nI_clamp (n := ((rT ρ) 0 0)) (by omega)] at hat
    rw [r_upd (qup (qup (qup (qup (qup (qup (rT ρ) 64 ((rT ρ) 0 0) s0) 65 ((rT ρ) 0 0) r0) 80 ((rT ρ) 0 0) x1) 81 ((rT ρ) 0 0) x2) 82 ((rT ρ) 0 0) x3) 66 ((rT ρ) 0 0) b0) 67 ((rT ρ) 0 0) ((rT ρ) 1 0)] at hat
    have hW := hW.upR 67 ((rT ρ) 0 0) ((rT ρ) 1 0) rfl rLV5 (rLV5 (ρ := (qup (qup (qup (qup (qup (qup (qup (rT ρ) 64 ((rT ρ) 0 0) s0) 65 ((rT ρ) 0 0) r0) 80 ((rT ρ) 0 0) x1) 81 ((rT ρ) 0 0) x2) 82 ((rT ρ) 0 0) x3) 66 ((rT ρ) 0 0) b0) 67 ((rT ρ) 0 0) ((rT ρ) 1 0)))) hat hoq
    refine lv_aload_n hx hb dX8_addLine_190 rfl (lv_at hl 2 rfl) ?_
    refine q_get (C := RX8) (T := TX8) (N := 36) hx hb hts iRX8 hown hC.1 (hW.to rLV0) rfl 8 (by decide) (hts (.fieldLink RX8 25 "LogWeaveModel" "state" "[C") (List.mem_of_getElem? (i := 9) (by decide +kernel))) rfl (v := .ref (bd 6 0)) rfl dX8_addLine_191 ?_
    refine lv_iload hx hb dX8_addLine_194 (lv_at hl 0 rfl) ?_
    refine lv_bipush (v := nI 107) hx hb dX8_addLine_196 (by decide) ?_
    refine q_cast hx hb hC.1 (hW.to rLV6) (hW.in rLV6) hS 3 rfl (vp_in_nI (n := ((rT ρ) 0 0)) (by omega) (by decide)) dX8_addLine_198 (fun H1 locs hat hsz hoq hS => ?_)
    rw [nI_clamp (n := ((rT ρ) 0 0)) (by omega)] at hat
    rw [show vp_nar .char (nI 107) = nI 107 from by decide] at hat
    rw [r_upd (qup (qup (qup (qup (qup (qup (qup (rT ρ) 64 ((rT ρ) 0 0) s0) 65 ((rT ρ) 0 0) r0) 80 ((rT ρ) 0 0) x1) 81 ((rT ρ) 0 0) x2) 82 ((rT ρ) 0 0) x3) 66 ((rT ρ) 0 0) b0) 67 ((rT ρ) 0 0) ((rT ρ) 1 0)) 69 ((rT ρ) 0 0) 107] at hat
    have hW := hW.upR 69 ((rT ρ) 0 0) 107 rfl rLV6 (rLV6 (ρ := (qup (qup (qup (qup (qup (qup (qup (qup (rT ρ) 64 ((rT ρ) 0 0) s0) 65 ((rT ρ) 0 0) r0) 80 ((rT ρ) 0 0) x1) 81 ((rT ρ) 0 0) x2) 82 ((rT ρ) 0 0) x3) 66 ((rT ρ) 0 0) b0) 67 ((rT ρ) 0 0) ((rT ρ) 1 0)) 69 ((rT ρ) 0 0) 107))) hat hoq
    refine lv_aload_n hx hb dX8_addLine_199 rfl (lv_at hl 2 rfl) ?_
    refine lv_dup hx hb dX8_addLine_200 rfl ?_
    refine q_get (C := RX8) (T := TX8) (N := 36) hx hb hts iRX8 hown hC.1 (hW.to rLV0) rfl 2 (by decide) (hts (.fieldLink RX8 104 "LogWeaveModel" "lines" "I") (List.mem_of_getElem? (i := 2) (by decide +kernel))) rfl (v := .int (nI ((qup (qup (qup (qup (qup (qup (qup (qup (rT ρ) 64 ((rT ρ) 0 0) s0) 65 ((rT ρ) 0 0) r0) 80 ((rT ρ) 0 0) x1) 81 ((rT ρ) 0 0) x2) 82 ((rT ρ) 0 0) x3) 66 ((rT ρ) 0 0) b0) 67 ((rT ρ) 0 0) ((rT ρ) 1 0)) 69 ((rT ρ) 0 0) 107) 0 0))) rfl dX8_addLine_201 ?_
    refine q_ti (y := nI ((rT ρ) 0 0)) rfl ?_
    refine lv_iconst (v := nI 1) hx hb dX8_addLine_204 (by decide) ?_
    refine lv_iadd hx hb dX8_addLine_205 ?_
    refine q_ti (nI_add ((rT ρ) 0 0) 1) ?_
    refine q_put (C := RX8) (T := TX8) (N := 36) (ty := .int) (v := .int (nI (((rT ρ) 0 0) + 1))) hx hb hts iRX8 tyX8 tyX8_ok nmX8 hown hC.1 (hW.to rLV0) (hW.in rLV0) hS rfl 2 (by decide) (hts (.fieldLink RX8 104 "LogWeaveModel" "lines" "I") (List.mem_of_getElem? (i := 2) (by decide +kernel))) rfl rfl (by decide +kernel) rfl rfl (Nat.le_of_ble_eq_true rfl) dX8_addLine_206 (fun H1 locs hat hsz hoq hS => ?_)
    have hW := hW.upR 0 0 (((rT ρ) 0 0) + 1) rfl rLV0 ((rLV0 (ρ := (qup (qup (qup (qup (qup (qup (qup (qup (qup (rT ρ) 64 ((rT ρ) 0 0) s0) 65 ((rT ρ) 0 0) r0) 80 ((rT ρ) 0 0) x1) 81 ((rT ρ) 0 0) x2) 82 ((rT ρ) 0 0) x3) 66 ((rT ρ) 0 0) b0) 67 ((rT ρ) 0 0) ((rT ρ) 1 0)) 69 ((rT ρ) 0 0) 107) 0 0 (((rT ρ) 0 0) + 1)))).trans (by rw [qup_s]; rfl)) hat hoq
    refine lv_aload_n hx hb dX8_addLine_209 rfl (lv_at hl 2 rfl) ?_
    refine lv_iload hx hb dX8_addLine_210 (lv_at hl 0 rfl) ?_
    have hW : rW G A (rLi (rT ρ) s0 r0 x1 x2 x3 b0) bd _ := hW
    have hF2 := rLi_wf hF hs0 hr0 hx1 hx2 hx3 hb0 hn0
    have e64 : (rLi (rT ρ) s0 r0 x1 x2 x3 b0) 64 ((rT ρ) 0 0) = s0 := by show qup (rT ρ) 64 ((rT ρ) 0 0) s0 64 ((rT ρ) 0 0) = s0; exact qup_s _ _ _ _
    have hT2 : rTurns f P O M ((rLi (rT ρ) s0 r0 x1 x2 x3 b0) 64 ((rT ρ) 0 0)) := by rw [e64]; exact hT
    have hw9 : ∀ k, k < 3 → (rLi (rT ρ) s0 r0 x1 x2 x3 b0) (80 + k) ((rT ρ) 0 0) < 100 := q_lt3 (by show qup (rT ρ) 80 ((rT ρ) 0 0) x1 80 ((rT ρ) 0 0) < 100; rw [qup_s]; exact hx1) (by show qup (rT ρ) 81 ((rT ρ) 0 0) x2 81 ((rT ρ) 0 0) < 100; rw [qup_s]; exact hx2) (by show qup (rT ρ) 82 ((rT ρ) 0 0) x3 82 ((rT ρ) 0 0) < 100; rw [qup_s]; exact hx3)
    have hFf : rWF (f 0) := by rw [h0]; exact (rLr_rwf hF2 hw9 hn1).up 68 _ _ (by show (rT ρ) 0 1 < _; omega) (by decide)
    refine q_wn (va_runV (As := [.int (nI ((rT ρ) 0 0))]) (rest := []) ⟨hx, hb, hml, hown, hts⟩ (m_rreadL l G A (rLi (rT ρ) s0 r0 x1 x2 x3 b0) bd hF2 ((rT ρ) 0 0) M f P O (Nat.lt_succ_self _) hnone hn1 hw9 h0 hT2) (cwV 1 hts gX8_addLine_X8_read rfl rfl rfl (by decide +kernel) ⟨Nat.le_of_ble_eq_true rfl, Nat.le_of_ble_eq_true rfl⟩) ⟨rR.blind, qrecv hC (hW.to rLV0) rfl, rR.pre hC hW⟩ rfl rfl hl.1 rfl (lv_room (Nat.le_of_ble_eq_true rfl)) dX8_addLine_212 ⟨Nat.le_of_ble_eq_true rfl, Nat.le_of_ble_eq_true rfl⟩) hS (fun _ h => h) (fun _ h => h) (fun H1 locs hW hz hk hS => ?_)
    obtain ⟨hFM, hfM⟩ := rTurns_ok hT hFf M (Nat.le_refl _)
    have hM2 : f M 0 2 = (rT ρ) 0 2 := by rw [hfM 0 2 (by decide) (by decide) (by decide), h0]; rfl
    have hM3 : f M 0 3 = (rT ρ) 0 3 := by rw [hfM 0 3 (by decide) (by decide) (by decide), h0]; rfl
    have hLs := rLs_ok hFM (by omega)
    refine lv_iconst (v := nI 0) hx hb dX8_addLine_215 (by decide) ?_
    refine lv_istore (lv' := [(9, .int (nI 0)), (8, .int (nI ((rT ρ) 0 0))), (7, .int (nI 1)), (0, .ref (bd 0 0)), (1, .int (nI s0)), (2, .int (nI r0)), (3, .int (nI x1)), (4, .int (nI x2)), (5, .int (nI x3)), (6, .int (nI b0))]) hx hb dX8_addLine_216 hl (by decide) rfl (fun ls hl => ?_)
    refine q_up ((rT ρ) 0 2) (fun i H locs ls => rW G A (rLs (f M) i) bd H ∧ va_S A s.heap H locs ∧ lv_has ls 10 [(0, .ref (bd 0 0)), (1, .int (nI s0)), (8, .int (nI ((rT ρ) 0 0))), (9, .int (nI i))]) ?_ ?_ (i0 := 0) (Nat.zero_le _) ⟨hW, hS, lv_sub hl [3, 4, 1, 0] rfl⟩
    · rintro H locs ls ⟨hW, hS, hl⟩
      obtain ⟨hFi, hgi, h3i⟩ := hLs ((rT ρ) 0 2) (by omega)
      have hg2 := hgi 2 (by decide)
      refine lv_iload hx hb dX8_addLine_218 (lv_at hl 3 rfl) ?_
      refine lv_aload_n hx hb dX8_addLine_220 rfl (lv_at hl 0 rfl) ?_
      refine q_get (C := RX8) (T := TX8) (N := 36) hx hb hts iRX8 hown hC.1 (hW.to rLV0) rfl 14 (by decide) (hts (.fieldLink RX8 114 "LogWeaveModel" "alerts" "I") (List.mem_of_getElem? (i := 10) (by decide +kernel))) rfl (v := .int (nI ((rLs (f M) ((rT ρ) 0 2)) 0 2))) rfl dX8_addLine_221 ?_
      refine q_ti (y := nI ((rT ρ) 0 2)) (by rw [hg2, hM2]) ?_
      refine q_ge (tgt := 239) hx hb (by omega) (by omega) dX8_addLine_224 (by decide) (fun g11 => ?_) (fun g11 => (by omega))
      refine lv_aload_n hx hb dX8_addLine_239 rfl (lv_at hl 0 rfl) ?_
      refine lv_iload_n hx hb dX8_addLine_240 rfl (lv_at hl 1 rfl) ?_
      refine q_wv (va_runV (As := [.int (nI s0)]) (rest := []) ⟨hx, hb, hml, hown, hts⟩ (m_rdrops l G A (rLs (f M) ((rT ρ) 0 2)) bd hFi s0 N hs0 hN) (cwV 1 hts gX8_addLine_X8_drops rfl rfl rfl (by decide +kernel) ⟨Nat.le_of_ble_eq_true rfl, Nat.le_of_ble_eq_true rfl⟩) ⟨rR.blind, qrecv hC (hW.to rLV0) rfl, rR.pre hC hW⟩ rfl rfl hl.1 rfl (lv_room (Nat.le_of_ble_eq_true rfl)) dX8_addLine_241 ⟨Nat.le_of_ble_eq_true rfl, Nat.le_of_ble_eq_true rfl⟩) hS (fun _ h => h) (fun _ h => h) (fun H1 locs hW hz hk hS => ?_)
      refine lv_pop hx hb dX8_addLine_244 rfl ?_
      refine lv_iload hx hb dX8_addLine_245 (lv_at hl 2 rfl) ?_
      exact W.iret hx hb hr (fun t ht _ => ⟨rfl, by rw [ht]; exact hW, hS.F ht⟩) hS.2.2 dX8_addLine_247
    · rintro i H locs ls hi ⟨hW, hS, hl⟩ ih
      obtain ⟨hFi, hgi, h3i⟩ := hLs i (by omega)
      have hg2 := hgi 2 (by decide)
      refine lv_iload hx hb dX8_addLine_218 (lv_at hl 3 rfl) ?_
      refine lv_aload_n hx hb dX8_addLine_220 rfl (lv_at hl 0 rfl) ?_
      refine q_get (C := RX8) (T := TX8) (N := 36) hx hb hts iRX8 hown hC.1 (hW.to rLV0) rfl 14 (by decide) (hts (.fieldLink RX8 114 "LogWeaveModel" "alerts" "I") (List.mem_of_getElem? (i := 10) (by decide +kernel))) rfl (v := .int (nI ((rLs (f M) i) 0 2))) rfl dX8_addLine_221 ?_
      refine q_ti (y := nI ((rT ρ) 0 2)) (by rw [hg2, hM2]) ?_
      refine q_ge (tgt := 239) hx hb (by omega) (by omega) dX8_addLine_224 (by decide) (fun g12 => (by omega)) (fun g12 => ?_)
      refine lv_aload_n hx hb dX8_addLine_227 rfl (lv_at hl 0 rfl) ?_
      refine lv_iload hx hb dX8_addLine_228 (lv_at hl 3 rfl) ?_
      refine q_wn (va_runV (As := [.int (nI i)]) (rest := []) ⟨hx, hb, hml, hown, hts⟩ (m_rlook l G A (rLs (f M) i) bd hFi i (by omega) (fun _ _ => by omega)) (cwV 1 hts gX8_addLine_X8_look rfl rfl rfl (by decide +kernel) ⟨Nat.le_of_ble_eq_true rfl, Nat.le_of_ble_eq_true rfl⟩) ⟨rR.blind, qrecv hC (hW.to rLV0) rfl, rR.pre hC hW⟩ rfl rfl hl.1 rfl (lv_room (Nat.le_of_ble_eq_true rfl)) dX8_addLine_230 ⟨Nat.le_of_ble_eq_true rfl, Nat.le_of_ble_eq_true rfl⟩) hS (fun _ h => h) (fun _ h => h) (fun H1 locs hW hz hk hS => ?_)
      refine lv_iinc (v := nI (i + 1)) (lv' := [(9, .int (nI (i + 1))), (0, .ref (bd 0 0)), (1, .int (nI s0)), (8, .int (nI ((rT ρ) 0 0)))]) hx hb dX8_addLine_233 hl (k := 3) rfl (nI_1 i) (by decide) rfl (fun ls hl => ?_)
      refine lv_goto (tgt := 218) hx hb dX8_addLine_236 (by decide) ?_
      exact ih _ _ ls ⟨hW, hS, lv_sub hl [1, 2, 3, 0] rfl⟩
  · skip
    refine lv_iconst (v := nI 1) hx hb dX8_addLine_98 (by decide) ?_
    refine lv_goto (tgt := 103) hx hb dX8_addLine_99 (by decide) ?_
    refine lv_iconst (v := nI 2) hx hb dX8_addLine_103 (by decide) ?_
    omega
