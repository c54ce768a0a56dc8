theorem rWF.n1 {ρ : QSt} (h : rWF ρ) {v : Nat} (hv : v ≤ 200) : rWF (qup ρ 0 1 v) := by
  obtain ⟨h1, h2, h3, h4, h5⟩ := h
  refine ⟨qup_b h1 (by omega) _ _, ?_, h3, h4, h5⟩
  exact ⟨h2.1, hv, h2.2.2⟩
abbrev rP (ρ : QSt) (l0 p0 : Nat) : Prop := ρ 97 p0 = 0 ∧ rfit ρ l0 p0 3
def rLo (ρ : QSt) (l0 i u : Nat) : Prop := (u = 0 ∧ ∀ p, i ≤ p → p < ρ 0 1 → ¬ rP ρ l0 p) ∨ (∃ q, u = q + 1 ∧ i ≤ q ∧ q < ρ 0 1 ∧ rP ρ l0 q ∧ ∀ p, i ≤ p → p < q → ¬ rP ρ l0 p)
theorem rLo_top (ρ : QSt) (l0 : Nat) : rLo ρ l0 (ρ 0 1) 0 := Or.inl ⟨rfl, fun p h1 h2 => absurd h1 (by omega)⟩
theorem rLo_no {ρ : QSt} {l0 i u : Nat} (h : rLo ρ l0 (i + 1) u) (hp : ¬ rP ρ l0 i) : rLo ρ l0 i u := by
  rcases h with ⟨h1, h2⟩ | ⟨q, h1, h2, h3, h4, h5⟩
  · exact Or.inl ⟨h1, fun p p1 p2 => (Nat.eq_or_lt_of_le p1).elim (fun z => by rw [← z]; exact hp) (fun z => h2 p z p2)⟩
  · exact Or.inr ⟨q, h1, by omega, h3, h4, fun p p1 p2 => (Nat.eq_or_lt_of_le p1).elim (fun z => by rw [← z]; exact hp) (fun z => h5 p z p2)⟩
theorem rLo_yes {ρ : QSt} {l0 i : Nat} (hi : i < ρ 0 1) (hp : rP ρ l0 i) : rLo ρ l0 i (i + 1) := Or.inr ⟨i, rfl, Nat.le_refl _, hi, hp, fun p p1 p2 => absurd p1 (by omega)⟩
/-- the words of a line put into a new pattern, so far -/
def rLp (ρ : QSt) (l0 i : Nat) : QSt := fun r j => if 112 ≤ r ∧ r < 112 + i ∧ j = ρ 0 1 then ρ (80 + (r - 112)) l0 + 1 else ρ r j
theorem rLp_0 (ρ : QSt) (l0 : Nat) : rLp ρ l0 0 = ρ := by
  funext r j; exact if_neg (fun z => by omega)
theorem rLp_r {ρ : QSt} {l0 i r j : Nat} (h : r < 112 ∨ 115 ≤ r) (hi : i ≤ 3) : rLp ρ l0 i r j = ρ r j := if_neg (fun z => by omega)
theorem rLp_s {ρ : QSt} {l0 i : Nat} (hi : i < 3) : rLp ρ l0 (i + 1) = qup (rLp ρ l0 i) (112 + i) (ρ 0 1) (rLp ρ l0 i (80 + i) l0 + 1) := by
  funext r j
  rw [rLp_r (r := 80 + i) (by omega) (by omega)]
  unfold rLp qup
  by_cases c : r = 112 + i ∧ j = ρ 0 1
  · rw [if_pos c, if_pos ⟨by omega, by omega, c.2⟩, show r - 112 = i by omega]
  · rw [if_neg c]
    show _ = (if 112 ≤ r ∧ r < 112 + i ∧ j = ρ 0 1 then ρ (80 + (r - 112)) l0 + 1 else ρ r j)
    by_cases d : 112 ≤ r ∧ r < 112 + i ∧ j = ρ 0 1
    · rw [if_pos d, if_pos ⟨d.1, by omega, d.2.2⟩]
    · rw [if_neg d, if_neg (fun z => by omega)]
theorem rLp_b {ρ : QSt} (h : ∀ r i, ρ r i < 1073741823) (l0 k : Nat) (r i : Nat) : rLp ρ l0 k r i < 1073741824 := by
  unfold rLp; split
  · have := h (80 + (r - 112)) l0; omega
  · have := h r i; omega
/-- a pattern learned of a line -/
def rLr (ρ : QSt) (l0 : Nat) : QSt := qup (rLp (qup ρ 96 (ρ 0 1) (ρ 64 l0)) l0 3) 0 1 (ρ 0 1 + 1)
theorem rLr_rwf {ρ : QSt} (h : rWF ρ) {l0 : Nat} (hw : ∀ k, k < 3 → ρ (80 + k) l0 < 100) (hn : ρ 0 1 < 200) : rWF (rLr ρ l0) := by
  unfold rLr
  refine rWF.n1 ?_ (by omega)
  have hX := h.up 96 (ρ 0 1) (ρ 64 l0) (h.1 _ _) (by decide)
  refine hX.sub (fun r i => ?_) (fun r i hr => rLp_r (by omega) (by omega))
  unfold rLp; split
  · rename_i z
    have := hw (r - 112) (by omega)
    rw [qup_k (by omega)]
    omega
  · exact hX.1 r i
theorem rLr_r {ρ : QSt} {l0 r j : Nat} (h : r < 96 ∨ 97 ≤ r) (h2 : r < 112 ∨ 115 ≤ r) (h3 : r ≠ 0) : rLr ρ l0 r j = ρ r j := by
  unfold rLr
  rw [qup_k h3, rLp_r h2 (by omega), qup_k (by omega)]
/-- the turns of merging -/
def rTurns (f : Nat → QSt) (P O : Nat → Nat) (N s0 : Nat) : Prop := (∀ i, i < N → rM1 (f i) s0 (P i) (O i) ∧ f (i + 1) = qfM (f i) (P i) (O i)) ∧ rM0 (f N) s0
theorem rTurns_ok {f : Nat → QSt} {P O : Nat → Nat} {N s0 : Nat} (h : rTurns f P O N s0) (h0 : rWF (f 0)) : ∀ i, i ≤ N → rWF (f i) ∧ ∀ r j, r < 112 ∨ 115 ≤ r → r ≠ 68 → r ≠ 97 → f i r j = f 0 r j
  | 0, _ => ⟨h0, fun _ _ _ _ _ => rfl⟩
  | i + 1, hi => by
    obtain ⟨g1, g2⟩ := rTurns_ok h h0 i (by omega)
    obtain ⟨k1, k2⟩ := h.1 i (by omega)
    have hn := g1.n
    have h5 := k1.1
    have h6 := k1.2.1
    refine ⟨by rw [k2]; exact qfM_rwf g1 (by omega), fun r j a b c => by rw [k2, qfM_r a b c]; exact g2 r j a b c⟩

set_option maxHeartbeats 4000000 in
set_option maxRecDepth 100000 in
theorem m_rreadK (l : Launch) (G : QG) (A : Nat → Prop) (ρ bd : QSt) (hF : rWF ρ) (l0 q0 N : Nat) (f : Nat → QSt) (P O : Nat → Nat) (hl0 : l0 < ρ 0 0) (hq0 : q0 < ρ 0 1) (hp0 : rP ρ l0 q0) (hlow : ∀ p, p < q0 → ¬ rP ρ l0 p) (h0 : f 0 = (qup ρ 68 l0 q0)) (hT : rTurns f P O N (ρ 64 l0)) : Met l yX8_read wsX8_read ({ frames := 2, cells := 0, slots := 0, locals := 51 } : Room) (rR G A ρ bd [.ref (bd 0 0), .int (nI l0)]) (qWV none (rW G A (f N) bd) A) 0 0 A := by
  refine Met.ofW (cc := cX8_read) (maxL := 4) (ret := none) (by decide) rfl ?_
  intro p e s m args below meth c s₁ B hml hv
  obtain ⟨rfl, hC, hW⟩ := hv
  have hx := B.exec
  have hb := B.bytes
  have hr := B.returns
  have hts := atoms_spec (ws := wsX8_read) B.pre
  have hown : s.vm.findClass RX8 = some m.cls := findClass_of_methodNamed B.named
  have hlocks := B.notSynchronized
  have hB := hF.1
  have hn := hF.n
  have hS : va_S A s.heap s.heap [] := va_S.rf
  have hl := lv_entry ([.ref (bd 0 0), .int (nI l0)]) (n := 4) (Nat.le_of_ble_eq_true rfl)
  rw [lg_entry_eq]
  generalize (lg_sl ([.ref (bd 0 0), .int (nI l0)]) ++ List.replicate (4 - (lg_sl ([.ref (bd 0 0), .int (nI l0)])).length) Slot.unset).toArray = ls at hl ⊢
  have hl : lv_has ls 4 [(0, .ref (bd 0 0)), (1, .int (nI l0))] := hl
  have iRX8 : ∀ w ∈ wsX80, w ∈ wsX8_read := by decide +kernel
  have hF0 : rWF (f 0) := by rw [h0]; exact hF.up 68 l0 q0 (by omega) (by decide)
  have hok := rTurns_ok hT hF0
  have h64 : f 0 64 l0 = ρ 64 l0 := by rw [h0, qup_k (by decide)]
  have h00 : f 0 0 0 = ρ 0 0 := by rw [h0]; rfl
  refine lv_iconst (v := -1) hx hb dX8_read_0 (by decide) ?_
  refine lv_istore_n (lv' := [(2, .int (-1)), (0, .ref (bd 0 0)), (1, .int (nI l0))]) hx hb dX8_read_1 rfl hl (by decide) rfl (fun ls hl => ?_)
  refine lv_aload_n hx hb dX8_read_2 rfl (lv_at hl 1 rfl) ?_
  refine q_get (C := RX8) (T := TX8) (N := 36) hx hb hts iRX8 hown hC.1 (hW.to rLV0) rfl 10 (by decide) (hts (.fieldLink RX8 111 "LogWeaveModel" "patterns" "I") (List.mem_of_getElem? (i := 1) (by decide +kernel))) rfl (v := .int (nI (ρ 0 1))) rfl dX8_read_3 ?_
  refine lv_iconst (v := nI 1) hx hb dX8_read_6 (by decide) ?_
  refine lv_isub hx hb dX8_read_7 ?_
  refine q_ti (y := nI (ρ 0 1) - 1) rfl ?_
  refine lv_istore_n (lv' := [(3, .int (nI (ρ 0 1) - 1)), (2, .int (-1)), (0, .ref (bd 0 0)), (1, .int (nI l0))]) hx hb dX8_read_8 rfl hl (by decide) rfl (fun ls hl => ?_)
  refine q_dn (fun i H9 locs ls => H9 = s.heap ∧ va_S A s.heap H9 locs ∧ ∃ (t : Int32), (∃ u, t = nI u - 1 ∧ rLo ρ l0 i u) ∧ ∃ (z : Unit), (i ≤ ρ 0 1) ∧ lv_has ls 4 [(0, .ref (bd 0 0)), (1, .int (nI l0)), (2, .int (t)), (3, .int (nI i - 1))]) ?_ ?_ (ρ 0 1) ⟨rfl, hS, (-1), ⟨0, by decide, rLo_top ρ l0⟩, (), Nat.le_refl _, lv_sub hl [2, 3, 1, 0] rfl⟩
  · rintro _ locs ls ⟨rfl, hS, t, e_t, z, e_z, hl⟩
    refine lv_iload_n hx hb dX8_read_9 rfl (lv_at hl 3 rfl) ?_
    refine r_iflt (r_lt0 (by decide)) hx hb dX8_read_10 (tgt := 43) (by decide) (fun g1 => ?_) (fun g1 => ?_)
    · skip
      obtain ⟨u, hu1, hu2⟩ := e_t
      have hu : t = nI q0 := by
        rcases hu2 with ⟨k1, k2⟩ | ⟨q, k1, k2, k3, k4, k5⟩
        · exact absurd hp0 (k2 q0 (Nat.zero_le _) hq0)
        · have hq : q = q0 := by rcases Nat.lt_trichotomy q q0 with z | z | z; exact absurd k4 (hlow q z); exact z; exact absurd hp0 (k5 q0 (Nat.zero_le _) z)
          rw [hu1, k1, hq]; exact nI_pred q0
      subst hu
      refine lv_iload_n hx hb dX8_read_43 rfl (lv_at hl 2 rfl) ?_
      refine lv_iconst (v := -1) hx hb dX8_read_44 (by decide) ?_
      refine q_neP hx hb (r_nm1 (by omega)) dX8_read_45 (tgt := 108) (by decide) (fun g2 => ?_) (fun g2 => absurd g2 (by omega))
      refine lv_aload_n hx hb dX8_read_108 rfl (lv_at hl 0 rfl) ?_
      refine q_get (C := RX8) (T := TX8) (N := 36) hx hb hts iRX8 hown hC.1 (hW.to rLV0) rfl 9 (by decide) (hts (.fieldLink RX8 29 "LogWeaveModel" "pattern" "[I") (List.mem_of_getElem? (i := 7) (by decide +kernel))) rfl (v := .ref (bd 7 0)) rfl dX8_read_109 ?_
      refine lv_iload_n hx hb dX8_read_112 rfl (lv_at hl 1 rfl) ?_
      refine lv_iload_n hx hb dX8_read_113 rfl (lv_at hl 2 rfl) ?_
      refine q_iast hx hb hC.1 (hW.to rLV7) (hW.in rLV7) hS 1 rfl (vp_in_nI (n := l0) (by omega) (by decide)) dX8_read_114 (fun H1 locs hat hsz hoq hS => ?_)
      rw [nI_clamp (n := l0) (by omega)] at hat
      rw [r_upd ρ 68 l0 q0] at hat
      have hW := hW.upR 68 l0 q0 rfl rLV7 (rLV7 (ρ := (qup ρ 68 l0 q0))) hat hoq
      rw [← h0] at hW
      refine lv_iconst (v := nI 1) hx hb dX8_read_115 (by decide) ?_
      refine lv_istore_n (lv' := [(3, .int (nI 1)), (0, .ref (bd 0 0)), (1, .int (nI l0)), (2, .int (nI q0))]) hx hb dX8_read_116 rfl hl (by decide) rfl (fun ls hl => ?_)
      refine q_up N (fun i H locs ls => rW G A (f i) bd H ∧ va_S A s.heap H locs ∧ lv_has ls 4 [(0, .ref (bd 0 0)), (1, .int (nI l0)), (3, .int (nI 1))]) ?_ ?_ (i0 := 0) (Nat.zero_le _) ⟨hW, hS, lv_sub hl [1, 2, 0] rfl⟩
      · rintro H locs ls ⟨hW, hS, hl⟩
        obtain ⟨hFi, hfi⟩ := hok N (Nat.le_refl _)
        refine lv_iload_n hx hb dX8_read_117 rfl (lv_at hl 2 rfl) ?_
        refine q_eq0 (tgt := 135) hx hb (by decide) dX8_read_118 (by decide) (fun g3 => (by omega)) (fun g3 => ?_)
        refine lv_aload_n hx hb dX8_read_121 rfl (lv_at hl 0 rfl) ?_
        refine lv_aload_n hx hb dX8_read_122 rfl (lv_at hl 0 rfl) ?_
        refine q_get (C := RX8) (T := TX8) (N := 36) hx hb hts iRX8 hown hC.1 (hW.to rLV0) rfl 3 (by decide) (hts (.fieldLink RX8 7 "LogWeaveModel" "source" "[I") (List.mem_of_getElem? (i := 4) (by decide +kernel))) rfl (v := .ref (bd 1 0)) rfl dX8_read_123 ?_
        refine lv_iload_n hx hb dX8_read_126 rfl (lv_at hl 1 rfl) ?_
        refine r_iald hx hb hC.1 (hW.to rLV1) 1 rfl (i := l0) (by omega) (by decide) (v := nI ((f N) 64 l0)) rfl dX8_read_127 ?_
        refine q_ti (y := nI (ρ 64 l0)) (by rw [hfi 64 l0 (by decide) (by decide) (by decide), h64]) ?_
        refine q_v (va_runV (As := [.int (nI (ρ 64 l0))]) (rest := []) ⟨hx, hb, hml, hown, hts⟩ (m_rmerges0 l G A (f N) bd hFi (ρ 64 l0) (hB _ _) hT.2) (cwV 1 hts gX8_read_X8_merges rfl rfl rfl (by decide +kernel) ⟨Nat.le_of_ble_eq_true rfl, Nat.le_of_ble_eq_true rfl⟩) ⟨rR.blind, qrecv hC (hW.to rLV0) rfl, rR.pre hC hW⟩ rfl rfl hl.1 rfl (lv_room (Nat.le_of_ble_eq_true rfl)) dX8_read_128 ⟨Nat.le_of_ble_eq_true rfl, Nat.le_of_ble_eq_true rfl⟩) hS (fun _ h => h.elim) (fun locs hS => ?_)
        refine lv_istore_n (lv' := [(3, .int (nI 0)), (0, .ref (bd 0 0)), (1, .int (nI l0))]) hx hb dX8_read_131 rfl hl (by decide) rfl (fun ls hl => ?_)
        refine lv_goto (tgt := 117) hx hb dX8_read_132 (by decide) ?_
        refine lv_iload_n hx hb dX8_read_117 rfl (lv_at hl 0 rfl) ?_
        refine q_eq0 (tgt := 135) hx hb (by decide) dX8_read_118 (by decide) (fun g4 => ?_) (fun g4 => (by omega))
        exact W.vret hx hb hr (fun t ht _ => ⟨rfl, by rw [ht]; exact hW, hS.F ht⟩) hS.2.2 dX8_read_135
      · rintro i H locs ls hi ⟨hW, hS, hl⟩ ih
        obtain ⟨hFi, hfi⟩ := hok i (Nat.le_of_lt hi)
        obtain ⟨hm, hf⟩ := hT.1 i hi
        refine lv_iload_n hx hb dX8_read_117 rfl (lv_at hl 2 rfl) ?_
        refine q_eq0 (tgt := 135) hx hb (by decide) dX8_read_118 (by decide) (fun g5 => (by omega)) (fun g5 => ?_)
        refine lv_aload_n hx hb dX8_read_121 rfl (lv_at hl 0 rfl) ?_
        refine lv_aload_n hx hb dX8_read_122 rfl (lv_at hl 0 rfl) ?_
        refine q_get (C := RX8) (T := TX8) (N := 36) hx hb hts iRX8 hown hC.1 (hW.to rLV0) rfl 3 (by decide) (hts (.fieldLink RX8 7 "LogWeaveModel" "source" "[I") (List.mem_of_getElem? (i := 4) (by decide +kernel))) rfl (v := .ref (bd 1 0)) rfl dX8_read_123 ?_
        refine lv_iload_n hx hb dX8_read_126 rfl (lv_at hl 1 rfl) ?_
        refine r_iald hx hb hC.1 (hW.to rLV1) 1 rfl (i := l0) (by omega) (by decide) (v := nI ((f i) 64 l0)) rfl dX8_read_127 ?_
        refine q_ti (y := nI (ρ 64 l0)) (by rw [hfi 64 l0 (by decide) (by decide) (by decide), h64]) ?_
        refine q_wv (va_runV (As := [.int (nI (ρ 64 l0))]) (rest := []) ⟨hx, hb, hml, hown, hts⟩ (m_rmerges1 l G A (f i) bd hFi (ρ 64 l0) (P i) (O i) (hB _ _) hm) (cwV 1 hts gX8_read_X8_merges rfl rfl rfl (by decide +kernel) ⟨Nat.le_of_ble_eq_true rfl, Nat.le_of_ble_eq_true rfl⟩) ⟨rR.blind, qrecv hC (hW.to rLV0) rfl, rR.pre hC hW⟩ rfl rfl hl.1 rfl (lv_room (Nat.le_of_ble_eq_true rfl)) dX8_read_128 ⟨Nat.le_of_ble_eq_true rfl, Nat.le_of_ble_eq_true rfl⟩) hS (fun _ h => h) (fun _ h => h) (fun H1 locs hW hz hk hS => ?_)
        refine lv_istore_n (lv' := [(3, .int (nI 1)), (0, .ref (bd 0 0)), (1, .int (nI l0))]) hx hb dX8_read_131 rfl hl (by decide) rfl (fun ls hl => ?_)
        refine lv_goto (tgt := 117) hx hb dX8_read_132 (by decide) ?_
        exact ih _ _ ls ⟨(by rw [hf]; exact hW), hS, lv_sub hl [1, 2, 0] rfl⟩
    · skip
      omega
  · rintro i _ locs ls ⟨rfl, hS, t, e_t, z, e_z, hl⟩ ih
    rw [nI_pred i] at hl
    obtain ⟨u, hu1, hu2⟩ := e_t
    have hi : i < ρ 0 1 := e_z
    refine lv_iload_n hx hb dX8_read_9 rfl (lv_at hl 3 rfl) ?_
    refine q_lt0 (tgt := 43) hx hb (by omega) dX8_read_10 (by decide) (fun g6 => g6.elim) (fun g6 => ?_)
    refine lv_aload_n hx hb dX8_read_13 rfl (lv_at hl 0 rfl) ?_
    refine q_get (C := RX8) (T := TX8) (N := 36) hx hb hts iRX8 hown hC.1 (hW.to rLV0) rfl 13 (by decide) (hts (.fieldLink RX8 38 "LogWeaveModel" "isMerged" "[Z") (List.mem_of_getElem? (i := 2) (by decide +kernel))) rfl (v := .ref (bd 10 0)) rfl dX8_read_14 ?_
    refine lv_iload_n hx hb dX8_read_17 rfl (lv_at hl 3 rfl) ?_
    refine r_zald hx hb hC.1 (hW.to rLV10) 4 rfl (i := i) (by omega) (by decide) (v := nI (ρ 97 i)) rfl dX8_read_18 ?_
    refine q_ne0 (tgt := 35) hx hb (q31 (hB _ _)) dX8_read_19 (by decide) (fun g7 => ?_) (fun g7 => ?_)
    · skip
      refine lv_iload_n hx hb dX8_read_35 rfl (lv_at hl 2 rfl) ?_
      refine lv_istore_n (lv' := [(2, .int (t)), (0, .ref (bd 0 0)), (1, .int (nI l0)), (3, .int (nI i))]) hx hb dX8_read_36 rfl hl (by decide) rfl (fun ls hl => ?_)
      refine lv_iinc (v := nI i - nI 1) (lv' := [(3, .int (nI i - nI 1)), (2, .int (t)), (0, .ref (bd 0 0)), (1, .int (nI l0))]) hx hb dX8_read_37 hl (k := 3) rfl (q_dec _) (by decide) rfl (fun ls hl => ?_)
      refine lv_goto (tgt := 9) hx hb dX8_read_40 (by decide) ?_
      exact ih _ locs ls ⟨rfl, hS, t, ⟨u, hu1, rLo_no hu2 (fun h => g7 h.1)⟩, (), by omega, lv_sub hl [2, 3, 1, 0] rfl⟩
    · skip
      refine lv_aload_n hx hb dX8_read_22 rfl (lv_at hl 0 rfl) ?_
      refine lv_iload_n hx hb dX8_read_23 rfl (lv_at hl 1 rfl) ?_
      refine lv_iload_n hx hb dX8_read_24 rfl (lv_at hl 3 rfl) ?_
      refine q_v (va_runV (As := [.int (nI l0), .int (nI i)]) (rest := []) ⟨hx, hb, hml, hown, hts⟩ (m_rfits l G A ρ bd hF l0 i hl0 hi) (cwV 2 hts gX8_read_X8_fits rfl rfl rfl (by decide +kernel) ⟨Nat.le_of_ble_eq_true rfl, Nat.le_of_ble_eq_true rfl⟩) ⟨rR.blind, qrecv hC (hW.to rLV0) rfl, rR.pre hC hW⟩ rfl rfl hl.1 rfl (lv_room (Nat.le_of_ble_eq_true rfl)) dX8_read_25 ⟨Nat.le_of_ble_eq_true rfl, Nat.le_of_ble_eq_true rfl⟩) hS (fun _ h => h.elim) (fun locs hS => ?_)
      refine q_eq0 (tgt := 35) hx hb q_31B dX8_read_28 (by decide) (fun g8 => ?_) (fun g8 => ?_)
      · skip
        refine lv_iload_n hx hb dX8_read_35 rfl (lv_at hl 2 rfl) ?_
        refine lv_istore_n (lv' := [(2, .int (t)), (0, .ref (bd 0 0)), (1, .int (nI l0)), (3, .int (nI i))]) hx hb dX8_read_36 rfl hl (by decide) rfl (fun ls hl => ?_)
        refine lv_iinc (v := nI i - nI 1) (lv' := [(3, .int (nI i - nI 1)), (2, .int (t)), (0, .ref (bd 0 0)), (1, .int (nI l0))]) hx hb dX8_read_37 hl (k := 3) rfl (q_dec _) (by decide) rfl (fun ls hl => ?_)
        refine lv_goto (tgt := 9) hx hb dX8_read_40 (by decide) ?_
        exact ih _ locs ls ⟨rfl, hS, t, ⟨u, hu1, rLo_no hu2 (fun h => by rw [qB_t h.2] at g8; exact absurd g8 (by decide))⟩, (), by omega, lv_sub hl [2, 3, 1, 0] rfl⟩
      · skip
        refine lv_iload_n hx hb dX8_read_31 rfl (lv_at hl 3 rfl) ?_
        refine lv_goto (tgt := 36) hx hb dX8_read_32 (by decide) ?_
        refine lv_istore_n (lv' := [(2, .int (nI i)), (0, .ref (bd 0 0)), (1, .int (nI l0)), (3, .int (nI i))]) hx hb dX8_read_36 rfl hl (by decide) rfl (fun ls hl => ?_)
        refine lv_iinc (v := nI i - nI 1) (lv' := [(3, .int (nI i - nI 1)), (2, .int (nI i)), (0, .ref (bd 0 0)), (1, .int (nI l0))]) hx hb dX8_read_37 hl (k := 3) rfl (q_dec _) (by decide) rfl (fun ls hl => ?_)
        refine lv_goto (tgt := 9) hx hb dX8_read_40 (by decide) ?_
        exact ih _ locs ls ⟨rfl, hS, (nI i), ⟨i + 1, (nI_pred i).symm, rLo_yes hi ⟨g7, Classical.byContradiction fun h => g8 (qB_f h)⟩⟩, (), by omega, lv_sub hl [2, 3, 1, 0] rfl⟩
set_option maxHeartbeats 4000000 in
set_option maxRecDepth 100000 in
theorem m_rreadL (l : Launch) (G : QG) (A : Nat → Prop) (ρ bd : QSt) (hF : rWF ρ) (l0 N : Nat) (f : Nat → QSt) (P O : Nat → Nat) (hl0 : l0 < ρ 0 0) (hnone : ∀ p, p < ρ 0 1 → ¬ rP ρ l0 p) (hn1 : ρ 0 1 < 200) (hw : ∀ k, k < 3 → ρ (80 + k) l0 < 100) (h0 : f 0 = (qup (rLr ρ l0) 68 l0 (ρ 0 1))) (hT : rTurns f P O N (ρ 64 l0)) : Met l yX8_read wsX8_read ({ frames := 2, cells := 0, slots := 0, locals := 51 } : Room) (rR G A ρ bd [.ref (bd 0 0), .int (nI l0)]) (qWV none (rW G A (f N) bd) A) 0 0 A := by
  refine Met.ofW (cc := cX8_read) (maxL := 4) (ret := none) (by decide) rfl ?_
  intro p e s m args below meth c s₁ B hml hv
  obtain ⟨rfl, hC, hW⟩ := hv
  have hx := B.exec
  have hb := B.bytes
  have hr := B.returns
  have hts := atoms_spec (ws := wsX8_read) B.pre
  have hown : s.vm.findClass RX8 = some m.cls := findClass_of_methodNamed B.named
  have hlocks := B.notSynchronized
  have hB := hF.1
  have hn := hF.n
  have hS : va_S A s.heap s.heap [] := va_S.rf
  have hl := lv_entry ([.ref (bd 0 0), .int (nI l0)]) (n := 4) (Nat.le_of_ble_eq_true rfl)
  rw [lg_entry_eq]
  generalize (lg_sl ([.ref (bd 0 0), .int (nI l0)]) ++ List.replicate (4 - (lg_sl ([.ref (bd 0 0), .int (nI l0)])).length) Slot.unset).toArray = ls at hl ⊢
  have hl : lv_has ls 4 [(0, .ref (bd 0 0)), (1, .int (nI l0))] := hl
  have iRX8 : ∀ w ∈ wsX80, w ∈ wsX8_read := by decide +kernel
  have hF0 : rWF (f 0) := by rw [h0]; exact (rLr_rwf hF hw hn1).up 68 l0 _ (by omega) (by decide)
  have hok := rTurns_ok hT hF0
  have h64 : f 0 64 l0 = ρ 64 l0 := by rw [h0, qup_k (by decide)]; exact rLr_r (by decide) (by decide) (by decide)
  have h00 : f 0 0 0 = ρ 0 0 := by rw [h0]; rfl
  refine lv_iconst (v := -1) hx hb dX8_read_0 (by decide) ?_
  refine lv_istore_n (lv' := [(2, .int (-1)), (0, .ref (bd 0 0)), (1, .int (nI l0))]) hx hb dX8_read_1 rfl hl (by decide) rfl (fun ls hl => ?_)
  refine lv_aload_n hx hb dX8_read_2 rfl (lv_at hl 1 rfl) ?_
  refine q_get (C := RX8) (T := TX8) (N := 36) hx hb hts iRX8 hown hC.1 (hW.to rLV0) rfl 10 (by decide) (hts (.fieldLink RX8 111 "LogWeaveModel" "patterns" "I") (List.mem_of_getElem? (i := 1) (by decide +kernel))) rfl (v := .int (nI (ρ 0 1))) rfl dX8_read_3 ?_
  refine lv_iconst (v := nI 1) hx hb dX8_read_6 (by decide) ?_
  refine lv_isub hx hb dX8_read_7 ?_
  refine q_ti (y := nI (ρ 0 1) - 1) rfl ?_
  refine lv_istore_n (lv' := [(3, .int (nI (ρ 0 1) - 1)), (2, .int (-1)), (0, .ref (bd 0 0)), (1, .int (nI l0))]) hx hb dX8_read_8 rfl hl (by decide) rfl (fun ls hl => ?_)
  refine q_dn (fun i H9 locs ls => H9 = s.heap ∧ va_S A s.heap H9 locs ∧ ∃ (t : Int32), (∃ u, t = nI u - 1 ∧ rLo ρ l0 i u) ∧ ∃ (z : Unit), (i ≤ ρ 0 1) ∧ lv_has ls 4 [(0, .ref (bd 0 0)), (1, .int (nI l0)), (2, .int (t)), (3, .int (nI i - 1))]) ?_ ?_ (ρ 0 1) ⟨rfl, hS, (-1), ⟨0, by decide, rLo_top ρ l0⟩, (), Nat.le_refl _, lv_sub hl [2, 3, 1, 0] rfl⟩
  · rintro _ locs ls ⟨rfl, hS, t, e_t, z, e_z, hl⟩
    refine lv_iload_n hx hb dX8_read_9 rfl (lv_at hl 3 rfl) ?_
    refine r_iflt (r_lt0 (by decide)) hx hb dX8_read_10 (tgt := 43) (by decide) (fun g1 => ?_) (fun g1 => ?_)
    · skip
      obtain ⟨u, hu1, hu2⟩ := e_t
      have hu : t = -1 := by
        rcases hu2 with ⟨k1, k2⟩ | ⟨q, k1, k2, k3, k4, k5⟩
        · rw [hu1, k1]; decide
        · exact absurd k4 (hnone q k3)
      subst hu
      refine lv_iload_n hx hb dX8_read_43 rfl (lv_at hl 2 rfl) ?_
      refine lv_iconst (v := -1) hx hb dX8_read_44 (by decide) ?_
      refine lv_icmp_ne (tgt := 108) hx hb dX8_read_45 (by decide) (fun g2 => absurd g2 (by decide)) (fun g2 => ?_)
      refine lv_aload_n hx hb dX8_read_48 rfl (lv_at hl 0 rfl) ?_
      refine q_get (C := RX8) (T := TX8) (N := 36) hx hb hts iRX8 hown hC.1 (hW.to rLV0) rfl 10 (by decide) (hts (.fieldLink RX8 111 "LogWeaveModel" "patterns" "I") (List.mem_of_getElem? (i := 1) (by decide +kernel))) rfl (v := .int (nI (ρ 0 1))) rfl dX8_read_49 ?_
      refine lv_istore_n (lv' := [(2, .int (nI (ρ 0 1))), (0, .ref (bd 0 0)), (1, .int (nI l0)), (3, .int (nI 0 - 1))]) hx hb dX8_read_52 rfl hl (by decide) rfl (fun ls hl => ?_)
      refine lv_aload_n hx hb dX8_read_53 rfl (lv_at hl 1 rfl) ?_
      refine q_get (C := RX8) (T := TX8) (N := 36) hx hb hts iRX8 hown hC.1 (hW.to rLV0) rfl 11 (by decide) (hts (.fieldLink RX8 32 "LogWeaveModel" "sourceOf" "[I") (List.mem_of_getElem? (i := 3) (by decide +kernel))) rfl (v := .ref (bd 8 0)) rfl dX8_read_54 ?_
      refine lv_iload_n hx hb dX8_read_57 rfl (lv_at hl 0 rfl) ?_
      refine lv_aload_n hx hb dX8_read_58 rfl (lv_at hl 1 rfl) ?_
      refine q_get (C := RX8) (T := TX8) (N := 36) hx hb hts iRX8 hown hC.1 (hW.to rLV0) rfl 3 (by decide) (hts (.fieldLink RX8 7 "LogWeaveModel" "source" "[I") (List.mem_of_getElem? (i := 4) (by decide +kernel))) rfl (v := .ref (bd 1 0)) rfl dX8_read_59 ?_
      refine lv_iload_n hx hb dX8_read_62 rfl (lv_at hl 2 rfl) ?_
      refine r_iald hx hb hC.1 (hW.to rLV1) 1 rfl (i := l0) (by omega) (by decide) (v := nI (ρ 64 l0)) rfl dX8_read_63 ?_
      refine q_iast hx hb hC.1 (hW.to rLV8) (hW.in rLV8) hS 1 rfl (vp_in_nI (n := (ρ 0 1)) (by omega) (by decide)) dX8_read_64 (fun H1 locs hat hsz hoq hS => ?_)
      rw [nI_clamp (n := (ρ 0 1)) (by omega)] at hat
      rw [r_upd ρ 96 (ρ 0 1) (ρ 64 l0)] at hat
      have hW := hW.upR 96 (ρ 0 1) (ρ 64 l0) rfl rLV8 (rLV8 (ρ := (qup ρ 96 (ρ 0 1) (ρ 64 l0)))) hat hoq
      refine lv_iconst (v := nI 0) hx hb dX8_read_65 (by decide) ?_
      refine lv_istore_n (lv' := [(3, .int (nI 0)), (2, .int (nI (ρ 0 1))), (0, .ref (bd 0 0)), (1, .int (nI l0))]) hx hb dX8_read_66 rfl hl (by decide) rfl (fun ls hl => ?_)
      refine q_up 3 (fun i H locs ls => rW G A (rLp (qup ρ 96 (ρ 0 1) (ρ 64 l0)) l0 i) bd H ∧ va_S A s.heap H locs ∧ lv_has ls 4 [(0, .ref (bd 0 0)), (1, .int (nI l0)), (2, .int (nI (ρ 0 1))), (3, .int (nI i))]) ?_ ?_ (i0 := 0) (Nat.zero_le _) ⟨(by rw [rLp_0]; exact hW), hS, lv_sub hl [2, 3, 1, 0] rfl⟩
      · rintro H locs ls ⟨hW, hS, hl⟩
        refine lv_iload_n hx hb dX8_read_67 rfl (lv_at hl 3 rfl) ?_
        refine lv_iconst (v := nI 3) hx hb dX8_read_68 (by decide) ?_
        refine q_ge (tgt := 98) hx hb (by decide) (by decide) dX8_read_69 (by decide) (fun g3 => ?_) (fun g3 => (by omega))
        refine lv_aload_n hx hb dX8_read_98 rfl (lv_at hl 0 rfl) ?_
        refine lv_dup hx hb dX8_read_99 rfl ?_
        refine q_get (C := RX8) (T := TX8) (N := 36) hx hb hts iRX8 hown hC.1 (hW.to rLV0) rfl 10 (by decide) (hts (.fieldLink RX8 111 "LogWeaveModel" "patterns" "I") (List.mem_of_getElem? (i := 1) (by decide +kernel))) rfl (v := .int (nI ((rLp (qup ρ 96 (ρ 0 1) (ρ 64 l0)) l0 3) 0 1))) rfl dX8_read_100 ?_
        refine lv_iconst (v := nI 1) hx hb dX8_read_103 (by decide) ?_
        refine lv_iadd hx hb dX8_read_104 ?_
        refine q_ti (nI_add ((rLp (qup ρ 96 (ρ 0 1) (ρ 64 l0)) l0 3) 0 1) 1) ?_
        refine q_ti (y := nI (ρ 0 1 + 1)) rfl ?_
        refine q_put (C := RX8) (T := TX8) (N := 36) (ty := .int) (v := .int (nI (ρ 0 1 + 1))) hx hb hts iRX8 tyX8 tyX8_ok nmX8 hown hC.1 (hW.to rLV0) (hW.in rLV0) hS rfl 10 (by decide) (hts (.fieldLink RX8 111 "LogWeaveModel" "patterns" "I") (List.mem_of_getElem? (i := 1) (by decide +kernel))) rfl rfl (by decide +kernel) rfl rfl (Nat.le_of_ble_eq_true rfl) dX8_read_105 (fun H1 locs hat hsz hoq hS => ?_)
        have hW := hW.upR 0 1 (ρ 0 1 + 1) rfl rLV0 ((rLV0 (ρ := (qup (rLp (qup ρ 96 (ρ 0 1) (ρ 64 l0)) l0 3) 0 1 (ρ 0 1 + 1)))).trans (by rw [qup_s]; rfl)) hat hoq
        have hW : rW G A (rLr ρ l0) bd _ := hW
        refine lv_aload_n hx hb dX8_read_108 rfl (lv_at hl 0 rfl) ?_
        refine q_get (C := RX8) (T := TX8) (N := 36) hx hb hts iRX8 hown hC.1 (hW.to rLV0) rfl 9 (by decide) (hts (.fieldLink RX8 29 "LogWeaveModel" "pattern" "[I") (List.mem_of_getElem? (i := 7) (by decide +kernel))) rfl (v := .ref (bd 7 0)) rfl dX8_read_109 ?_
        refine lv_iload_n hx hb dX8_read_112 rfl (lv_at hl 1 rfl) ?_
        refine lv_iload_n hx hb dX8_read_113 rfl (lv_at hl 2 rfl) ?_
        refine q_iast hx hb hC.1 (hW.to rLV7) (hW.in rLV7) hS 1 rfl (vp_in_nI (n := l0) (by omega) (by decide)) dX8_read_114 (fun H1 locs hat hsz hoq hS => ?_)
        rw [nI_clamp (n := l0) (by omega)] at hat
        rw [r_upd (rLr ρ l0) 68 l0 (ρ 0 1)] at hat
        have hW := hW.upR 68 l0 (ρ 0 1) rfl rLV7 (rLV7 (ρ := (qup (rLr ρ l0) 68 l0 (ρ 0 1)))) hat hoq
        rw [← h0] at hW
        refine lv_iconst (v := nI 1) hx hb dX8_read_115 (by decide) ?_
        refine lv_istore_n (lv' := [(3, .int (nI 1)), (0, .ref (bd 0 0)), (1, .int (nI l0)), (2, .int (nI (ρ 0 1)))]) hx hb dX8_read_116 rfl hl (by decide) rfl (fun ls hl => ?_)
        refine q_up N (fun i H locs ls => rW G A (f i) bd H ∧ va_S A s.heap H locs ∧ lv_has ls 4 [(0, .ref (bd 0 0)), (1, .int (nI l0)), (3, .int (nI 1))]) ?_ ?_ (i0 := 0) (Nat.zero_le _) ⟨hW, hS, lv_sub hl [1, 2, 0] rfl⟩
        · rintro H locs ls ⟨hW, hS, hl⟩
          obtain ⟨hFi, hfi⟩ := hok N (Nat.le_refl _)
          refine lv_iload_n hx hb dX8_read_117 rfl (lv_at hl 2 rfl) ?_
          refine q_eq0 (tgt := 135) hx hb (by decide) dX8_read_118 (by decide) (fun g4 => (by omega)) (fun g4 => ?_)
          refine lv_aload_n hx hb dX8_read_121 rfl (lv_at hl 0 rfl) ?_
          refine lv_aload_n hx hb dX8_read_122 rfl (lv_at hl 0 rfl) ?_
          refine q_get (C := RX8) (T := TX8) (N := 36) hx hb hts iRX8 hown hC.1 (hW.to rLV0) rfl 3 (by decide) (hts (.fieldLink RX8 7 "LogWeaveModel" "source" "[I") (List.mem_of_getElem? (i := 4) (by decide +kernel))) rfl (v := .ref (bd 1 0)) rfl dX8_read_123 ?_
          refine lv_iload_n hx hb dX8_read_126 rfl (lv_at hl 1 rfl) ?_
          refine r_iald hx hb hC.1 (hW.to rLV1) 1 rfl (i := l0) (by omega) (by decide) (v := nI ((f N) 64 l0)) rfl dX8_read_127 ?_
          refine q_ti (y := nI (ρ 64 l0)) (by rw [hfi 64 l0 (by decide) (by decide) (by decide), h64]) ?_
          refine q_v (va_runV (As := [.int (nI (ρ 64 l0))]) (rest := []) ⟨hx, hb, hml, hown, hts⟩ (m_rmerges0 l G A (f N) bd hFi (ρ 64 l0) (hB _ _) hT.2) (cwV 1 hts gX8_read_X8_merges rfl rfl rfl (by decide +kernel) ⟨Nat.le_of_ble_eq_true rfl, Nat.le_of_ble_eq_true rfl⟩) ⟨rR.blind, qrecv hC (hW.to rLV0) rfl, rR.pre hC hW⟩ rfl rfl hl.1 rfl (lv_room (Nat.le_of_ble_eq_true rfl)) dX8_read_128 ⟨Nat.le_of_ble_eq_true rfl, Nat.le_of_ble_eq_true rfl⟩) hS (fun _ h => h.elim) (fun locs hS => ?_)
          refine lv_istore_n (lv' := [(3, .int (nI 0)), (0, .ref (bd 0 0)), (1, .int (nI l0))]) hx hb dX8_read_131 rfl hl (by decide) rfl (fun ls hl => ?_)
          refine lv_goto (tgt := 117) hx hb dX8_read_132 (by decide) ?_
          refine lv_iload_n hx hb dX8_read_117 rfl (lv_at hl 0 rfl) ?_
          refine q_eq0 (tgt := 135) hx hb (by decide) dX8_read_118 (by decide) (fun g5 => ?_) (fun g5 => (by omega))
          exact W.vret hx hb hr (fun t ht _ => ⟨rfl, by rw [ht]; exact hW, hS.F ht⟩) hS.2.2 dX8_read_135
        · rintro i H locs ls hi ⟨hW, hS, hl⟩ ih
          obtain ⟨hFi, hfi⟩ := hok i (Nat.le_of_lt hi)
          obtain ⟨hm, hf⟩ := hT.1 i hi
          refine lv_iload_n hx hb dX8_read_117 rfl (lv_at hl 2 rfl) ?_
          refine q_eq0 (tgt := 135) hx hb (by decide) dX8_read_118 (by decide) (fun g6 => (by omega)) (fun g6 => ?_)
          refine lv_aload_n hx hb dX8_read_121 rfl (lv_at hl 0 rfl) ?_
          refine lv_aload_n hx hb dX8_read_122 rfl (lv_at hl 0 rfl) ?_
          refine q_get (C := RX8) (T := TX8) (N := 36) hx hb hts iRX8 hown hC.1 (hW.to rLV0) rfl 3 (by decide) (hts (.fieldLink RX8 7 "LogWeaveModel" "source" "[I") (List.mem_of_getElem? (i := 4) (by decide +kernel))) rfl (v := .ref (bd 1 0)) rfl dX8_read_123 ?_
          refine lv_iload_n hx hb dX8_read_126 rfl (lv_at hl 1 rfl) ?_
          refine r_iald hx hb hC.1 (hW.to rLV1) 1 rfl (i := l0) (by omega) (by decide) (v := nI ((f i) 64 l0)) rfl dX8_read_127 ?_
          refine q_ti (y := nI (ρ 64 l0)) (by rw [hfi 64 l0 (by decide) (by decide) (by decide), h64]) ?_
          refine q_wv (va_runV (As := [.int (nI (ρ 64 l0))]) (rest := []) ⟨hx, hb, hml, hown, hts⟩ (m_rmerges1 l G A (f i) bd hFi (ρ 64 l0) (P i) (O i) (hB _ _) hm) (cwV 1 hts gX8_read_X8_merges rfl rfl rfl (by decide +kernel) ⟨Nat.le_of_ble_eq_true rfl, Nat.le_of_ble_eq_true rfl⟩) ⟨rR.blind, qrecv hC (hW.to rLV0) rfl, rR.pre hC hW⟩ rfl rfl hl.1 rfl (lv_room (Nat.le_of_ble_eq_true rfl)) dX8_read_128 ⟨Nat.le_of_ble_eq_true rfl, Nat.le_of_ble_eq_true rfl⟩) hS (fun _ h => h) (fun _ h => h) (fun H1 locs hW hz hk hS => ?_)
          refine lv_istore_n (lv' := [(3, .int (nI 1)), (0, .ref (bd 0 0)), (1, .int (nI l0))]) hx hb dX8_read_131 rfl hl (by decide) rfl (fun ls hl => ?_)
          refine lv_goto (tgt := 117) hx hb dX8_read_132 (by decide) ?_
          exact ih _ _ ls ⟨(by rw [hf]; exact hW), hS, lv_sub hl [1, 2, 0] rfl⟩
      · rintro i H locs ls hi ⟨hW, hS, hl⟩ ih
        refine lv_iload_n hx hb dX8_read_67 rfl (lv_at hl 3 rfl) ?_
        refine lv_iconst (v := nI 3) hx hb dX8_read_68 (by decide) ?_
        refine q_ge (tgt := 98) hx hb (by omega) (by decide) dX8_read_69 (by decide) (fun g7 => (by omega)) (fun g7 => ?_)
        refine lv_aload_n hx hb dX8_read_72 rfl (lv_at hl 0 rfl) ?_
        refine q_get (C := RX8) (T := TX8) (N := 36) hx hb hts iRX8 hown hC.1 (hW.to rLV0) rfl 12 (by decide) (hts (.fieldLink RX8 35 "LogWeaveModel" "part" "[I") (List.mem_of_getElem? (i := 5) (by decide +kernel))) rfl (v := .ref (bd 9 0)) rfl dX8_read_73 ?_
        refine lv_iconst (v := nI 3) hx hb dX8_read_76 (by decide) ?_
        refine lv_iload_n hx hb dX8_read_77 rfl (lv_at hl 2 rfl) ?_
        refine lv_imul hx hb dX8_read_78 ?_
        refine q_ti (pk_mul 3 (ρ 0 1)) ?_
        refine lv_iload_n hx hb dX8_read_79 rfl (lv_at hl 3 rfl) ?_
        refine lv_iadd hx hb dX8_read_80 ?_
        refine q_ti (nI_add (3 * (ρ 0 1)) i) ?_
        refine lv_aload_n hx hb dX8_read_81 rfl (lv_at hl 0 rfl) ?_
        refine q_get (C := RX8) (T := TX8) (N := 36) hx hb hts iRX8 hown hC.1 (hW.to rLV0) rfl 5 (by decide) (hts (.fieldLink RX8 16 "LogWeaveModel" "word" "[I") (List.mem_of_getElem? (i := 6) (by decide +kernel))) rfl (v := .ref (bd 3 0)) rfl dX8_read_82 ?_
        refine lv_iconst (v := nI 3) hx hb dX8_read_85 (by decide) ?_
        refine lv_iload_n hx hb dX8_read_86 rfl (lv_at hl 1 rfl) ?_
        refine lv_imul hx hb dX8_read_87 ?_
        refine q_ti (pk_mul 3 l0) ?_
        refine lv_iload_n hx hb dX8_read_88 rfl (lv_at hl 3 rfl) ?_
        refine lv_iadd hx hb dX8_read_89 ?_
        refine q_ti (nI_add (3 * l0) i) ?_
        refine r_iald hx hb hC.1 (hW.to rLV3) 1 rfl (i := ((3 * l0) + i)) (by omega) (by decide) (v := nI ((rLp (qup ρ 96 (ρ 0 1) (ρ 64 l0)) l0 i) (80 + i) l0)) (by show nI ((rLp (qup ρ 96 (ρ 0 1) (ρ 64 l0)) l0 i) (80 + ((3 * l0) + i) % 3) (((3 * l0) + i) / 3)) = _; rw [show ((3 * l0) + i) % 3 = i by omega, show ((3 * l0) + i) / 3 = l0 by omega]) dX8_read_90 ?_
        refine q_iast hx hb hC.1 (hW.to rLV9) (hW.in rLV9) hS 1 rfl (vp_in_nI (n := ((3 * (ρ 0 1)) + i)) (by omega) (by decide)) dX8_read_91 (fun H1 locs hat hsz hoq hS => ?_)
        rw [nI_clamp (n := ((3 * (ρ 0 1)) + i)) (by omega)] at hat
        rw [show nI ((rLp (qup ρ 96 (ρ 0 1) (ρ 64 l0)) l0 i) (80 + i) l0) = nI ((rLp (qup ρ 96 (ρ 0 1) (ρ 64 l0)) l0 i) (80 + i) l0 + 1) - 1 from (nI_pred _).symm] at hat
        rw [r_upd3m (rLp (qup ρ 96 (ρ 0 1) (ρ 64 l0)) l0 i) 112 (ρ 0 1) i ((rLp (qup ρ 96 (ρ 0 1) (ρ 64 l0)) l0 i) (80 + i) l0 + 1) (by omega)] at hat
        have hW := hW.upR (112 + i) (ρ 0 1) ((rLp (qup ρ 96 (ρ 0 1) (ρ 64 l0)) l0 i) (80 + i) l0 + 1) (r_kd112 (by omega)) rLV9 (rLV9 (ρ := (qup (rLp (qup ρ 96 (ρ 0 1) (ρ 64 l0)) l0 i) (112 + i) (ρ 0 1) ((rLp (qup ρ 96 (ρ 0 1) (ρ 64 l0)) l0 i) (80 + i) l0 + 1)))) hat hoq
        refine lv_iinc (v := nI (i + 1)) (lv' := [(3, .int (nI (i + 1))), (0, .ref (bd 0 0)), (1, .int (nI l0)), (2, .int (nI (ρ 0 1)))]) hx hb dX8_read_92 hl (k := 3) rfl (nI_1 i) (by decide) rfl (fun ls hl => ?_)
        refine lv_goto (tgt := 67) hx hb dX8_read_95 (by decide) ?_
        exact ih _ _ ls ⟨(by rw [rLp_s hi]; exact hW), hS, lv_sub hl [1, 2, 3, 0] rfl⟩
    · skip
      omega
  · rintro i _ locs ls ⟨rfl, hS, t, e_t, z, e_z, hl⟩ ih
    rw [nI_pred i] at hl
    obtain ⟨u, hu1, hu2⟩ := e_t
    have hi : i < ρ 0 1 := e_z
    refine lv_iload_n hx hb dX8_read_9 rfl (lv_at hl 3 rfl) ?_
    refine q_lt0 (tgt := 43) hx hb (by omega) dX8_read_10 (by decide) (fun g8 => g8.elim) (fun g8 => ?_)
    refine lv_aload_n hx hb dX8_read_13 rfl (lv_at hl 0 rfl) ?_
    refine q_get (C := RX8) (T := TX8) (N := 36) hx hb hts iRX8 hown hC.1 (hW.to rLV0) rfl 13 (by decide) (hts (.fieldLink RX8 38 "LogWeaveModel" "isMerged" "[Z") (List.mem_of_getElem? (i := 2) (by decide +kernel))) rfl (v := .ref (bd 10 0)) rfl dX8_read_14 ?_
    refine lv_iload_n hx hb dX8_read_17 rfl (lv_at hl 3 rfl) ?_
    refine r_zald hx hb hC.1 (hW.to rLV10) 4 rfl (i := i) (by omega) (by decide) (v := nI (ρ 97 i)) rfl dX8_read_18 ?_
    refine q_ne0 (tgt := 35) hx hb (q31 (hB _ _)) dX8_read_19 (by decide) (fun g9 => ?_) (fun g9 => ?_)
    · skip
      refine lv_iload_n hx hb dX8_read_35 rfl (lv_at hl 2 rfl) ?_
      refine lv_istore_n (lv' := [(2, .int (t)), (0, .ref (bd 0 0)), (1, .int (nI l0)), (3, .int (nI i))]) hx hb dX8_read_36 rfl hl (by decide) rfl (fun ls hl => ?_)
      refine lv_iinc (v := nI i - nI 1) (lv' := [(3, .int (nI i - nI 1)), (2, .int (t)), (0, .ref (bd 0 0)), (1, .int (nI l0))]) hx hb dX8_read_37 hl (k := 3) rfl (q_dec _) (by decide) rfl (fun ls hl => ?_)
      refine lv_goto (tgt := 9) hx hb dX8_read_40 (by decide) ?_
      exact ih _ locs ls ⟨rfl, hS, t, ⟨u, hu1, rLo_no hu2 (fun h => g9 h.1)⟩, (), by omega, lv_sub hl [2, 3, 1, 0] rfl⟩
    · skip
      refine lv_aload_n hx hb dX8_read_22 rfl (lv_at hl 0 rfl) ?_
      refine lv_iload_n hx hb dX8_read_23 rfl (lv_at hl 1 rfl) ?_
      refine lv_iload_n hx hb dX8_read_24 rfl (lv_at hl 3 rfl) ?_
      refine q_v (va_runV (As := [.int (nI l0), .int (nI i)]) (rest := []) ⟨hx, hb, hml, hown, hts⟩ (m_rfits l G A ρ bd hF l0 i hl0 hi) (cwV 2 hts gX8_read_X8_fits rfl rfl rfl (by decide +kernel) ⟨Nat.le_of_ble_eq_true rfl, Nat.le_of_ble_eq_true rfl⟩) ⟨rR.blind, qrecv hC (hW.to rLV0) rfl, rR.pre hC hW⟩ rfl rfl hl.1 rfl (lv_room (Nat.le_of_ble_eq_true rfl)) dX8_read_25 ⟨Nat.le_of_ble_eq_true rfl, Nat.le_of_ble_eq_true rfl⟩) hS (fun _ h => h.elim) (fun locs hS => ?_)
      refine q_eq0 (tgt := 35) hx hb q_31B dX8_read_28 (by decide) (fun g10 => ?_) (fun g10 => ?_)
      · skip
        refine lv_iload_n hx hb dX8_read_35 rfl (lv_at hl 2 rfl) ?_
        refine lv_istore_n (lv' := [(2, .int (t)), (0, .ref (bd 0 0)), (1, .int (nI l0)), (3, .int (nI i))]) hx hb dX8_read_36 rfl hl (by decide) rfl (fun ls hl => ?_)
        refine lv_iinc (v := nI i - nI 1) (lv' := [(3, .int (nI i - nI 1)), (2, .int (t)), (0, .ref (bd 0 0)), (1, .int (nI l0))]) hx hb dX8_read_37 hl (k := 3) rfl (q_dec _) (by decide) rfl (fun ls hl => ?_)
        refine lv_goto (tgt := 9) hx hb dX8_read_40 (by decide) ?_
        exact ih _ locs ls ⟨rfl, hS, t, ⟨u, hu1, rLo_no hu2 (fun h => by rw [qB_t h.2] at g10; exact absurd g10 (by decide))⟩, (), by omega, lv_sub hl [2, 3, 1, 0] rfl⟩
      · skip
        refine lv_iload_n hx hb dX8_read_31 rfl (lv_at hl 3 rfl) ?_
        refine lv_goto (tgt := 36) hx hb dX8_read_32 (by decide) ?_
        refine lv_istore_n (lv' := [(2, .int (nI i)), (0, .ref (bd 0 0)), (1, .int (nI l0)), (3, .int (nI i))]) hx hb dX8_read_36 rfl hl (by decide) rfl (fun ls hl => ?_)
        refine lv_iinc (v := nI i - nI 1) (lv' := [(3, .int (nI i - nI 1)), (2, .int (nI i)), (0, .ref (bd 0 0)), (1, .int (nI l0))]) hx hb dX8_read_37 hl (k := 3) rfl (q_dec _) (by decide) rfl (fun ls hl => ?_)
        refine lv_goto (tgt := 9) hx hb dX8_read_40 (by decide) ?_
        exact ih _ locs ls ⟨rfl, hS, (nI i), ⟨i + 1, (nI_pred i).symm, rLo_yes hi ⟨g9, Classical.byContradiction fun h => g10 (qB_f h)⟩⟩, (), by omega, lv_sub hl [2, 3, 1, 0] rfl⟩
