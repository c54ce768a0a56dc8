theorem rkept_le {ρ : QSt} (h : rWF ρ) (s0 : Nat) : qkept ρ s0 ≤ 19800 := by
  have h1 : qkept ρ s0 ≤ ρ 0 0 * 99 := qsum_bound _ (fun l hl => by
    unfold qkp
    split
    · exact (h.lin hl).2
    · omega)
  have h2 := h.n.1
  omega
abbrev rmay (ρ : QSt) (s0 n u : Nat) : Prop := ρ 64 n = s0 ∧ ρ 69 n = 107 ∧ (u = 0 ∨ ρ 65 n < ρ 65 (u - 1)) ∧ ¬ rgd ρ n
/-- the line that is next to be dropped, and one; 0: none -/
noncomputable def rnd (ρ : QSt) (s0 : Nat) : Nat → Nat
  | 0 => 0
  | n + 1 => @ite _ (rmay ρ s0 n (rnd ρ s0 n)) (Classical.propDecidable _) (n + 1) (rnd ρ s0 n)
theorem rnd_t {ρ : QSt} {s0 n : Nat} (h : rmay ρ s0 n (rnd ρ s0 n)) : rnd ρ s0 (n + 1) = n + 1 := @if_pos _ (Classical.propDecidable _) h _ _ _
theorem rnd_f {ρ : QSt} {s0 n : Nat} (h : ¬ rmay ρ s0 n (rnd ρ s0 n)) : rnd ρ s0 (n + 1) = rnd ρ s0 n := @if_neg _ (Classical.propDecidable _) h _ _ _
theorem rnd_le (ρ : QSt) (s0 : Nat) : ∀ n, rnd ρ s0 n ≤ n
  | 0 => Nat.le_refl 0
  | n + 1 => by
    have := rnd_le ρ s0 n
    by_cases h : rmay ρ s0 n (rnd ρ s0 n)
    · rw [rnd_t h]; exact Nat.le_refl _
    · rw [rnd_f h]; omega
/-- the state behind so many drops -/
noncomputable def rDs (ρ : QSt) (s0 : Nat) : Nat → QSt
  | 0 => ρ
  | i + 1 => qup (rDs ρ s0 i) 69 (rnd (rDs ρ s0 i) s0 (rDs ρ s0 i 0 0) - 1) 100
def rDrp (ρ : QSt) (s0 N : Nat) : Prop := (∀ i, i < N → rDs ρ s0 i 48 s0 < qkept (rDs ρ s0 i) s0 ∧ rnd (rDs ρ s0 i) s0 (rDs ρ s0 i 0 0) ≠ 0) ∧ (qkept (rDs ρ s0 N) s0 ≤ rDs ρ s0 N 48 s0 ∨ rnd (rDs ρ s0 N) s0 (rDs ρ s0 N 0 0) = 0)
theorem rDs_ok {ρ : QSt} (h : rWF ρ) (s0 : Nat) : ∀ i, rWF (rDs ρ s0 i) ∧ ∀ r j, r ≠ 69 → rDs ρ s0 i r j = ρ r j
  | 0 => ⟨h, fun _ _ _ => rfl⟩
  | i + 1 => by
    obtain ⟨g1, g2⟩ := rDs_ok h s0 i
    exact ⟨g1.up 69 _ 100 (by decide) (by decide), fun r j hr => (qup_k hr).trans (g2 r j hr)⟩

set_option maxHeartbeats 4000000 in
set_option maxRecDepth 100000 in
theorem m_rdrops (l : Launch) (G : QG) (A : Nat → Prop) (ρ bd : QSt) (hF : rWF ρ) (s0 N : Nat) (hs0 : s0 < 4) (hN : rDrp ρ s0 N) : Met l yX8_drops wsX8_drops ({ frames := 2, cells := 0, slots := 0, locals := 46 } : Room) (rR G A ρ bd [.ref (bd 0 0), .int (nI s0)]) (qWV (some (.int (nI N))) (rW G A (rDs ρ s0 N) bd) A) 0 0 A := by
  refine Met.ofW (cc := cX8_drops) (maxL := 7) (ret := (some .int)) (by decide) rfl ?_
  intro p e s m args below meth c s₁ B hml hv
  obtain ⟨rfl, hC, hW⟩ := hv
  have hx := B.exec
  have hb := B.bytes
  have hr := B.returns
  have hts := atoms_spec (ws := wsX8_drops) B.pre
  have hown : s.vm.findClass RX8 = some m.cls := findClass_of_methodNamed B.named
  have hlocks := B.notSynchronized
  have hB := hF.1
  have hn := hF.n
  have hS : va_S A s.heap s.heap [] := va_S.rf
  have hl := lv_entry ([.ref (bd 0 0), .int (nI s0)]) (n := 7) (Nat.le_of_ble_eq_true rfl)
  rw [lg_entry_eq]
  generalize (lg_sl ([.ref (bd 0 0), .int (nI s0)]) ++ List.replicate (7 - (lg_sl ([.ref (bd 0 0), .int (nI s0)])).length) Slot.unset).toArray = ls at hl ⊢
  have hl : lv_has ls 7 [(0, .ref (bd 0 0)), (1, .int (nI s0))] := hl
  have iRX8 : ∀ w ∈ wsX80, w ∈ wsX8_drops := by decide +kernel
  refine lv_iconst (v := nI 0) hx hb dX8_drops_0 (by decide) ?_
  refine lv_istore_n (lv' := [(2, .int (nI 0)), (0, .ref (bd 0 0)), (1, .int (nI s0))]) hx hb dX8_drops_1 rfl hl (by decide) rfl (fun ls hl => ?_)
  refine lv_iconst (v := nI 1) hx hb dX8_drops_2 (by decide) ?_
  refine lv_istore_n (lv' := [(3, .int (nI 1)), (2, .int (nI 0)), (0, .ref (bd 0 0)), (1, .int (nI s0))]) hx hb dX8_drops_3 rfl hl (by decide) rfl (fun ls hl => ?_)
  refine q_up N (fun k H locs ls => rW G A (rDs ρ s0 k) bd H ∧ va_S A s.heap H locs ∧ lv_has ls 7 [(0, .ref (bd 0 0)), (1, .int (nI s0)), (2, .int (nI k)), (3, .int (nI 1))]) ?_ ?_ (i0 := 0) (Nat.zero_le _) ⟨hW, hS, lv_sub hl [2, 3, 1, 0] rfl⟩
  · rintro H locs ls ⟨hW, hS, hl⟩
    obtain ⟨hFk, hfk⟩ := rDs_ok hF s0 N
    have hn := hFk.n
    have hk2 := hN.2
    refine lv_iload_n hx hb dX8_drops_4 rfl (lv_at hl 3 rfl) ?_
    refine q_eq0 (tgt := 150) hx hb (by decide) dX8_drops_5 (by decide) (fun g1 => (by omega)) (fun g1 => ?_)
    refine lv_aload_n hx hb dX8_drops_8 rfl (lv_at hl 0 rfl) ?_
    refine lv_iload_n hx hb dX8_drops_9 rfl (lv_at hl 1 rfl) ?_
    refine q_v (va_runV (As := [.int (nI s0)]) (rest := []) ⟨hx, hb, hml, hown, hts⟩ (m_rkeptNow l G A (rDs ρ s0 N) bd hFk s0 (by omega)) (cwV 1 hts gX8_drops_X8_keptNow rfl rfl rfl (by decide +kernel) ⟨Nat.le_of_ble_eq_true rfl, Nat.le_of_ble_eq_true rfl⟩) ⟨rR.blind, qrecv hC (hW.to rLV0) rfl, rR.pre hC hW⟩ rfl rfl hl.1 rfl (lv_room (Nat.le_of_ble_eq_true rfl)) dX8_drops_10 ⟨Nat.le_of_ble_eq_true rfl, Nat.le_of_ble_eq_true rfl⟩) hS (fun _ h => h.elim) (fun locs hS => ?_)
    have hk9 := rkept_le hFk s0
    refine lv_aload_n hx hb dX8_drops_13 rfl (lv_at hl 0 rfl) ?_
    refine q_get (C := RX8) (T := TX8) (N := 36) hx hb hts iRX8 hown hC.1 (hW.to rLV0) rfl 30 (by decide) (hts (.fieldLink RX8 85 "LogWeaveModel" "budget" "[I") (List.mem_of_getElem? (i := 1) (by decide +kernel))) rfl (v := .ref (bd 25 0)) rfl dX8_drops_14 ?_
    refine lv_iload_n hx hb dX8_drops_17 rfl (lv_at hl 1 rfl) ?_
    refine r_iald hx hb hC.1 (hW.to rLV25) 1 rfl (i := s0) (by omega) (by decide) (v := nI ((rDs ρ s0 N) 48 s0)) rfl dX8_drops_18 ?_
    refine q_le (tgt := 150) hx hb (by omega) (q31 (hFk.1 _ _)) dX8_drops_19 (by decide) (fun g2 => ?_) (fun g2 => ?_)
    · skip
      refine lv_iload_n hx hb dX8_drops_150 rfl (lv_at hl 2 rfl) ?_
      exact W.iret hx hb hr (fun t ht _ => ⟨rfl, by rw [ht]; exact hW, hS.F ht⟩) hS.2.2 dX8_drops_151
    · skip
      refine lv_iconst (v := -1) hx hb dX8_drops_22 (by decide) ?_
      refine lv_istore (lv' := [(4, .int (-1)), (0, .ref (bd 0 0)), (1, .int (nI s0)), (2, .int (nI N)), (3, .int (nI 1))]) hx hb dX8_drops_23 hl (by decide) rfl (fun ls hl => ?_)
      refine lv_iconst (v := nI 0) hx hb dX8_drops_25 (by decide) ?_
      refine lv_istore (lv' := [(5, .int (nI 0)), (4, .int (-1)), (0, .ref (bd 0 0)), (1, .int (nI s0)), (2, .int (nI N)), (3, .int (nI 1))]) hx hb dX8_drops_26 hl (by decide) rfl (fun ls hl => ?_)
      refine q_up ((rDs ρ s0 N) 0 0) (fun i H locs ls => rW G A (rDs ρ s0 N) bd H ∧ va_S A s.heap H locs ∧ ∃ (u : Nat), (u = rnd (rDs ρ s0 N) s0 i) ∧ lv_has ls 7 [(0, .ref (bd 0 0)), (1, .int (nI s0)), (2, .int (nI N)), (3, .int (nI 1)), (4, .int (nI u - 1)), (5, .int (nI i))]) ?_ ?_ (i0 := 0) (Nat.zero_le _) ⟨hW, hS, 0, rfl, lv_sub hl [2, 3, 4, 5, 1, 0] rfl⟩
      · rintro H locs ls ⟨hW, hS, u, e_u, hl⟩
        refine lv_iload hx hb dX8_drops_28 (lv_at hl 5 rfl) ?_
        refine lv_aload_n hx hb dX8_drops_30 rfl (lv_at hl 0 rfl) ?_
        refine q_get (C := RX8) (T := TX8) (N := 36) hx hb hts iRX8 hown hC.1 (hW.to rLV0) rfl 2 (by decide) (hts (.fieldLink RX8 104 "LogWeaveModel" "lines" "I") (List.mem_of_getElem? (i := 2) (by decide +kernel))) rfl (v := .int (nI ((rDs ρ s0 N) 0 0))) rfl dX8_drops_31 ?_
        refine q_ge (tgt := 119) hx hb (q31 (hFk.1 _ _)) (q31 (hFk.1 _ _)) dX8_drops_34 (by decide) (fun g3 => ?_) (fun g3 => (by omega))
        have hu0 : u = 0 := by rcases hk2 with z | z; omega; omega
        subst hu0
        refine lv_iload hx hb dX8_drops_119 (lv_at hl 4 rfl) ?_
        refine lv_iconst (v := -1) hx hb dX8_drops_121 (by decide) ?_
        refine lv_icmp_eq (tgt := 129) hx hb dX8_drops_122 (by decide) (fun g4 => ?_) (fun g4 => absurd g4 (by decide))
        refine lv_iconst (v := nI 0) hx hb dX8_drops_129 (by decide) ?_
        refine lv_istore_n (lv' := [(3, .int (nI 0)), (0, .ref (bd 0 0)), (1, .int (nI s0)), (2, .int (nI N)), (4, .int (-1)), (5, .int (nI ((rDs ρ s0 N) 0 0)))]) hx hb dX8_drops_130 rfl hl (by decide) rfl (fun ls hl => ?_)
        refine lv_iload_n hx hb dX8_drops_131 rfl (lv_at hl 0 rfl) ?_
        refine q_eq0 (tgt := 147) hx hb (by decide) dX8_drops_132 (by decide) (fun g5 => ?_) (fun g5 => (by omega))
        refine lv_goto (tgt := 4) hx hb dX8_drops_147 (by decide) ?_
        refine lv_iload_n hx hb dX8_drops_4 rfl (lv_at hl 0 rfl) ?_
        refine q_eq0 (tgt := 150) hx hb (by decide) dX8_drops_5 (by decide) (fun g6 => ?_) (fun g6 => (by omega))
        refine lv_iload_n hx hb dX8_drops_150 rfl (lv_at hl 3 rfl) ?_
        exact W.iret hx hb hr (fun t ht _ => ⟨rfl, by rw [ht]; exact hW, hS.F ht⟩) hS.2.2 dX8_drops_151
      · rintro i H locs ls hi ⟨hW, hS, u, e_u, hl⟩ ihl
        have hu : u ≤ i := by rw [e_u]; exact rnd_le _ _ _
        refine lv_iload hx hb dX8_drops_28 (lv_at hl 5 rfl) ?_
        refine lv_aload_n hx hb dX8_drops_30 rfl (lv_at hl 0 rfl) ?_
        refine q_get (C := RX8) (T := TX8) (N := 36) hx hb hts iRX8 hown hC.1 (hW.to rLV0) rfl 2 (by decide) (hts (.fieldLink RX8 104 "LogWeaveModel" "lines" "I") (List.mem_of_getElem? (i := 2) (by decide +kernel))) rfl (v := .int (nI ((rDs ρ s0 N) 0 0))) rfl dX8_drops_31 ?_
        refine q_ge (tgt := 119) hx hb (by omega) (q31 (hFk.1 _ _)) dX8_drops_34 (by decide) (fun g7 => (by omega)) (fun g7 => ?_)
        refine lv_aload_n hx hb dX8_drops_37 rfl (lv_at hl 0 rfl) ?_
        refine q_get (C := RX8) (T := TX8) (N := 36) hx hb hts iRX8 hown hC.1 (hW.to rLV0) rfl 3 (by decide) (hts (.fieldLink RX8 7 "LogWeaveModel" "source" "[I") (List.mem_of_getElem? (i := 3) (by decide +kernel))) rfl (v := .ref (bd 1 0)) rfl dX8_drops_38 ?_
        refine lv_iload hx hb dX8_drops_41 (lv_at hl 5 rfl) ?_
        refine r_iald hx hb hC.1 (hW.to rLV1) 1 rfl (i := i) (by omega) (by decide) (v := nI ((rDs ρ s0 N) 64 i)) rfl dX8_drops_43 ?_
        refine lv_iload_n hx hb dX8_drops_44 rfl (lv_at hl 1 rfl) ?_
        refine q_ne (tgt := 87) hx hb (q31 (hFk.1 _ _)) (by omega) dX8_drops_45 (by decide) (fun g8 => ?_) (fun g8 => ?_)
        · skip
          refine lv_iconst (v := nI 0) hx hb dX8_drops_87 (by decide) ?_
          refine lv_istore (lv' := [(6, .int (nI 0)), (0, .ref (bd 0 0)), (1, .int (nI s0)), (2, .int (nI N)), (3, .int (nI 1)), (4, .int (nI u - 1)), (5, .int (nI i))]) hx hb dX8_drops_88 hl (by decide) rfl (fun ls hl => ?_)
          refine lv_iload hx hb dX8_drops_90 (lv_at hl 0 rfl) ?_
          refine q_eq0 (tgt := 109) hx hb (by decide) dX8_drops_92 (by decide) (fun g9 => ?_) (fun g9 => (by omega))
          refine lv_iload hx hb dX8_drops_109 (lv_at hl 5 rfl) ?_
          refine lv_istore (lv' := [(4, .int (nI u - 1)), (6, .int (nI 0)), (0, .ref (bd 0 0)), (1, .int (nI s0)), (2, .int (nI N)), (3, .int (nI 1)), (5, .int (nI i))]) hx hb dX8_drops_111 hl (by decide) rfl (fun ls hl => ?_)
          refine lv_iinc (v := nI (i + 1)) (lv' := [(5, .int (nI (i + 1))), (4, .int (nI u - 1)), (6, .int (nI 0)), (0, .ref (bd 0 0)), (1, .int (nI s0)), (2, .int (nI N)), (3, .int (nI 1))]) hx hb dX8_drops_113 hl (k := 6) rfl (nI_1 i) (by decide) rfl (fun ls hl => ?_)
          refine lv_goto (tgt := 28) hx hb dX8_drops_116 (by decide) ?_
          exact ihl _ _ ls ⟨hW, hS, u, by rw [rnd_f (fun h => g8 h.1)]; exact e_u, lv_sub hl [3, 4, 5, 6, 1, 0] rfl⟩
        · skip
          refine lv_aload_n hx hb dX8_drops_48 rfl (lv_at hl 0 rfl) ?_
          refine q_get (C := RX8) (T := TX8) (N := 36) hx hb hts iRX8 hown hC.1 (hW.to rLV0) rfl 8 (by decide) (hts (.fieldLink RX8 25 "LogWeaveModel" "state" "[C") (List.mem_of_getElem? (i := 4) (by decide +kernel))) rfl (v := .ref (bd 6 0)) rfl dX8_drops_49 ?_
          refine lv_iload hx hb dX8_drops_52 (lv_at hl 5 rfl) ?_
          refine r_cald hx hb hC.1 (hW.to rLV6) 3 rfl (i := i) (by omega) (by decide) (v := nI ((rDs ρ s0 N) 69 i)) rfl dX8_drops_54 ?_
          refine lv_bipush (v := nI 107) hx hb dX8_drops_55 (by decide) ?_
          refine q_ne (tgt := 87) hx hb (q31 (hFk.1 _ _)) (by decide) dX8_drops_57 (by decide) (fun g10 => ?_) (fun g10 => ?_)
          · skip
            refine lv_iconst (v := nI 0) hx hb dX8_drops_87 (by decide) ?_
            refine lv_istore (lv' := [(6, .int (nI 0)), (0, .ref (bd 0 0)), (1, .int (nI s0)), (2, .int (nI N)), (3, .int (nI 1)), (4, .int (nI u - 1)), (5, .int (nI i))]) hx hb dX8_drops_88 hl (by decide) rfl (fun ls hl => ?_)
            refine lv_iload hx hb dX8_drops_90 (lv_at hl 0 rfl) ?_
            refine q_eq0 (tgt := 109) hx hb (by decide) dX8_drops_92 (by decide) (fun g11 => ?_) (fun g11 => (by omega))
            refine lv_iload hx hb dX8_drops_109 (lv_at hl 5 rfl) ?_
            refine lv_istore (lv' := [(4, .int (nI u - 1)), (6, .int (nI 0)), (0, .ref (bd 0 0)), (1, .int (nI s0)), (2, .int (nI N)), (3, .int (nI 1)), (5, .int (nI i))]) hx hb dX8_drops_111 hl (by decide) rfl (fun ls hl => ?_)
            refine lv_iinc (v := nI (i + 1)) (lv' := [(5, .int (nI (i + 1))), (4, .int (nI u - 1)), (6, .int (nI 0)), (0, .ref (bd 0 0)), (1, .int (nI s0)), (2, .int (nI N)), (3, .int (nI 1))]) hx hb dX8_drops_113 hl (k := 6) rfl (nI_1 i) (by decide) rfl (fun ls hl => ?_)
            refine lv_goto (tgt := 28) hx hb dX8_drops_116 (by decide) ?_
            exact ihl _ _ ls ⟨hW, hS, u, by rw [rnd_f (fun h => g10 h.2.1)]; exact e_u, lv_sub hl [3, 4, 5, 6, 1, 0] rfl⟩
          · skip
            refine lv_iload hx hb dX8_drops_60 (lv_at hl 4 rfl) ?_
            refine lv_iconst (v := -1) hx hb dX8_drops_62 (by decide) ?_
            refine q_eqP hx hb (q_m0 (by omega)) dX8_drops_63 (tgt := 83) (by decide) (fun g12 => ?_) (fun g12 => ?_)
            · skip
              refine lv_iconst (v := nI 1) hx hb dX8_drops_83 (by decide) ?_
              refine lv_goto (tgt := 88) hx hb dX8_drops_84 (by decide) ?_
              refine lv_istore (lv' := [(6, .int (nI 1)), (0, .ref (bd 0 0)), (1, .int (nI s0)), (2, .int (nI N)), (3, .int (nI 1)), (4, .int (nI u - 1)), (5, .int (nI i))]) hx hb dX8_drops_88 hl (by decide) rfl (fun ls hl => ?_)
              refine lv_iload hx hb dX8_drops_90 (lv_at hl 0 rfl) ?_
              refine q_eq0 (tgt := 109) hx hb (by decide) dX8_drops_92 (by decide) (fun g13 => (by omega)) (fun g13 => ?_)
              refine lv_aload_n hx hb dX8_drops_95 rfl (lv_at hl 1 rfl) ?_
              refine lv_iload hx hb dX8_drops_96 (lv_at hl 6 rfl) ?_
              refine q_v (va_runV (As := [.int (nI i)]) (rest := []) ⟨hx, hb, hml, hown, hts⟩ (m_rguarded l G A (rDs ρ s0 N) bd hFk i hi) (cwV 1 hts gX8_drops_X8_isGuardedNow rfl rfl rfl (by decide +kernel) ⟨Nat.le_of_ble_eq_true rfl, Nat.le_of_ble_eq_true rfl⟩) ⟨rR.blind, qrecv hC (hW.to rLV0) rfl, rR.pre hC hW⟩ rfl rfl hl.1 rfl (lv_room (Nat.le_of_ble_eq_true rfl)) dX8_drops_98 ⟨Nat.le_of_ble_eq_true rfl, Nat.le_of_ble_eq_true rfl⟩) hS (fun _ h => h.elim) (fun locs hS => ?_)
              refine q_ne0 (tgt := 109) hx hb (by have := rgdN_le (rDs ρ s0 N) i; omega) dX8_drops_101 (by decide) (fun g14 => ?_) (fun g14 => ?_)
              · skip
                refine lv_iload hx hb dX8_drops_109 (lv_at hl 5 rfl) ?_
                refine lv_istore (lv' := [(4, .int (nI u - 1)), (6, .int (nI 1)), (0, .ref (bd 0 0)), (1, .int (nI s0)), (2, .int (nI N)), (3, .int (nI 1)), (5, .int (nI i))]) hx hb dX8_drops_111 hl (by decide) rfl (fun ls hl => ?_)
                refine lv_iinc (v := nI (i + 1)) (lv' := [(5, .int (nI (i + 1))), (4, .int (nI u - 1)), (6, .int (nI 1)), (0, .ref (bd 0 0)), (1, .int (nI s0)), (2, .int (nI N)), (3, .int (nI 1))]) hx hb dX8_drops_113 hl (k := 6) rfl (nI_1 i) (by decide) rfl (fun ls hl => ?_)
                refine lv_goto (tgt := 28) hx hb dX8_drops_116 (by decide) ?_
                exact ihl _ _ ls ⟨hW, hS, u, by rw [rnd_f (fun h => g14 (rgdN_f h.2.2.2))]; exact e_u, lv_sub hl [3, 4, 5, 6, 1, 0] rfl⟩
              · skip
                refine lv_iload hx hb dX8_drops_104 (lv_at hl 6 rfl) ?_
                refine lv_goto (tgt := 111) hx hb dX8_drops_106 (by decide) ?_
                refine lv_istore (lv' := [(4, .int (nI i)), (6, .int (nI 1)), (0, .ref (bd 0 0)), (1, .int (nI s0)), (2, .int (nI N)), (3, .int (nI 1)), (5, .int (nI i))]) hx hb dX8_drops_111 hl (by decide) rfl (fun ls hl => ?_)
                refine lv_iinc (v := nI (i + 1)) (lv' := [(5, .int (nI (i + 1))), (4, .int (nI i)), (6, .int (nI 1)), (0, .ref (bd 0 0)), (1, .int (nI s0)), (2, .int (nI N)), (3, .int (nI 1))]) hx hb dX8_drops_113 hl (k := 6) rfl (nI_1 i) (by decide) rfl (fun ls hl => ?_)
                refine lv_goto (tgt := 28) hx hb dX8_drops_116 (by decide) ?_
                rw [← nI_pred i] at hl
                have ht : rmay (rDs ρ s0 N) s0 i (rnd (rDs ρ s0 N) s0 i) := ⟨g8, g10, (Or.inl (by rw [← e_u]; exact g12)), fun h => by rw [rgdN_t h] at g14; exact absurd g14 (by decide)⟩
                exact ihl _ _ ls ⟨hW, hS, (i + 1), (rnd_t ht).symm, lv_sub hl [3, 4, 5, 6, 1, 0] rfl⟩
            · skip
              refine lv_aload_n hx hb dX8_drops_66 rfl (lv_at hl 0 rfl) ?_
              refine q_get (C := RX8) (T := TX8) (N := 36) hx hb hts iRX8 hown hC.1 (hW.to rLV0) rfl 4 (by decide) (hts (.fieldLink RX8 13 "LogWeaveModel" "rank" "[I") (List.mem_of_getElem? (i := 5) (by decide +kernel))) rfl (v := .ref (bd 2 0)) rfl dX8_drops_67 ?_
              refine lv_iload hx hb dX8_drops_70 (lv_at hl 5 rfl) ?_
              refine r_iald hx hb hC.1 (hW.to rLV2) 1 rfl (i := i) (by omega) (by decide) (v := nI ((rDs ρ s0 N) 65 i)) rfl dX8_drops_72 ?_
              refine lv_aload_n hx hb dX8_drops_73 rfl (lv_at hl 0 rfl) ?_
              refine q_get (C := RX8) (T := TX8) (N := 36) hx hb hts iRX8 hown hC.1 (hW.to rLV0) rfl 4 (by decide) (hts (.fieldLink RX8 13 "LogWeaveModel" "rank" "[I") (List.mem_of_getElem? (i := 5) (by decide +kernel))) rfl (v := .ref (bd 2 0)) rfl dX8_drops_74 ?_
              refine lv_iload hx hb dX8_drops_77 (lv_at hl 4 rfl) ?_
              refine q_ti (q_pred (by omega)) ?_
              refine r_iald hx hb hC.1 (hW.to rLV2) 1 rfl (i := (u - 1)) (by omega) (by decide) (v := nI ((rDs ρ s0 N) 65 (u - 1))) rfl dX8_drops_79 ?_
              refine q_ge (tgt := 87) hx hb (q31 (hFk.1 _ _)) (q31 (hFk.1 _ _)) dX8_drops_80 (by decide) (fun g15 => ?_) (fun g15 => ?_)
              · skip
                refine lv_iconst (v := nI 0) hx hb dX8_drops_87 (by decide) ?_
                refine lv_istore (lv' := [(6, .int (nI 0)), (0, .ref (bd 0 0)), (1, .int (nI s0)), (2, .int (nI N)), (3, .int (nI 1)), (4, .int (nI u - 1)), (5, .int (nI i))]) hx hb dX8_drops_88 hl (by decide) rfl (fun ls hl => ?_)
                refine lv_iload hx hb dX8_drops_90 (lv_at hl 0 rfl) ?_
                refine q_eq0 (tgt := 109) hx hb (by decide) dX8_drops_92 (by decide) (fun g16 => ?_) (fun g16 => (by omega))
                refine lv_iload hx hb dX8_drops_109 (lv_at hl 5 rfl) ?_
                refine lv_istore (lv' := [(4, .int (nI u - 1)), (6, .int (nI 0)), (0, .ref (bd 0 0)), (1, .int (nI s0)), (2, .int (nI N)), (3, .int (nI 1)), (5, .int (nI i))]) hx hb dX8_drops_111 hl (by decide) rfl (fun ls hl => ?_)
                refine lv_iinc (v := nI (i + 1)) (lv' := [(5, .int (nI (i + 1))), (4, .int (nI u - 1)), (6, .int (nI 0)), (0, .ref (bd 0 0)), (1, .int (nI s0)), (2, .int (nI N)), (3, .int (nI 1))]) hx hb dX8_drops_113 hl (k := 6) rfl (nI_1 i) (by decide) rfl (fun ls hl => ?_)
                refine lv_goto (tgt := 28) hx hb dX8_drops_116 (by decide) ?_
                exact ihl _ _ ls ⟨hW, hS, u, by rw [rnd_f (fun h => by rw [← e_u] at h; have := h.2.2.1; omega)]; exact e_u, lv_sub hl [3, 4, 5, 6, 1, 0] rfl⟩
              · skip
                refine lv_iconst (v := nI 1) hx hb dX8_drops_83 (by decide) ?_
                refine lv_goto (tgt := 88) hx hb dX8_drops_84 (by decide) ?_
                refine lv_istore (lv' := [(6, .int (nI 1)), (0, .ref (bd 0 0)), (1, .int (nI s0)), (2, .int (nI N)), (3, .int (nI 1)), (4, .int (nI u - 1)), (5, .int (nI i))]) hx hb dX8_drops_88 hl (by decide) rfl (fun ls hl => ?_)
                refine lv_iload hx hb dX8_drops_90 (lv_at hl 0 rfl) ?_
                refine q_eq0 (tgt := 109) hx hb (by decide) dX8_drops_92 (by decide) (fun g17 => (by omega)) (fun g17 => ?_)
                refine lv_aload_n hx hb dX8_drops_95 rfl (lv_at hl 1 rfl) ?_
                refine lv_iload hx hb dX8_drops_96 (lv_at hl 6 rfl) ?_
                refine q_v (va_runV (As := [.int (nI i)]) (rest := []) ⟨hx, hb, hml, hown, hts⟩ (m_rguarded l G A (rDs ρ s0 N) bd hFk i hi) (cwV 1 hts gX8_drops_X8_isGuardedNow rfl rfl rfl (by decide +kernel) ⟨Nat.le_of_ble_eq_true rfl, Nat.le_of_ble_eq_true rfl⟩) ⟨rR.blind, qrecv hC (hW.to rLV0) rfl, rR.pre hC hW⟩ rfl rfl hl.1 rfl (lv_room (Nat.le_of_ble_eq_true rfl)) dX8_drops_98 ⟨Nat.le_of_ble_eq_true rfl, Nat.le_of_ble_eq_true rfl⟩) hS (fun _ h => h.elim) (fun locs hS => ?_)
                refine q_ne0 (tgt := 109) hx hb (by have := rgdN_le (rDs ρ s0 N) i; omega) dX8_drops_101 (by decide) (fun g18 => ?_) (fun g18 => ?_)
                · skip
                  refine lv_iload hx hb dX8_drops_109 (lv_at hl 5 rfl) ?_
                  refine lv_istore (lv' := [(4, .int (nI u - 1)), (6, .int (nI 1)), (0, .ref (bd 0 0)), (1, .int (nI s0)), (2, .int (nI N)), (3, .int (nI 1)), (5, .int (nI i))]) hx hb dX8_drops_111 hl (by decide) rfl (fun ls hl => ?_)
                  refine lv_iinc (v := nI (i + 1)) (lv' := [(5, .int (nI (i + 1))), (4, .int (nI u - 1)), (6, .int (nI 1)), (0, .ref (bd 0 0)), (1, .int (nI s0)), (2, .int (nI N)), (3, .int (nI 1))]) hx hb dX8_drops_113 hl (k := 6) rfl (nI_1 i) (by decide) rfl (fun ls hl => ?_)
                  refine lv_goto (tgt := 28) hx hb dX8_drops_116 (by decide) ?_
                  exact ihl _ _ ls ⟨hW, hS, u, by rw [rnd_f (fun h => g18 (rgdN_f h.2.2.2))]; exact e_u, lv_sub hl [3, 4, 5, 6, 1, 0] rfl⟩
                · skip
                  refine lv_iload hx hb dX8_drops_104 (lv_at hl 6 rfl) ?_
                  refine lv_goto (tgt := 111) hx hb dX8_drops_106 (by decide) ?_
                  refine lv_istore (lv' := [(4, .int (nI i)), (6, .int (nI 1)), (0, .ref (bd 0 0)), (1, .int (nI s0)), (2, .int (nI N)), (3, .int (nI 1)), (5, .int (nI i))]) hx hb dX8_drops_111 hl (by decide) rfl (fun ls hl => ?_)
                  refine lv_iinc (v := nI (i + 1)) (lv' := [(5, .int (nI (i + 1))), (4, .int (nI i)), (6, .int (nI 1)), (0, .ref (bd 0 0)), (1, .int (nI s0)), (2, .int (nI N)), (3, .int (nI 1))]) hx hb dX8_drops_113 hl (k := 6) rfl (nI_1 i) (by decide) rfl (fun ls hl => ?_)
                  refine lv_goto (tgt := 28) hx hb dX8_drops_116 (by decide) ?_
                  rw [← nI_pred i] at hl
                  have ht : rmay (rDs ρ s0 N) s0 i (rnd (rDs ρ s0 N) s0 i) := ⟨g8, g10, (Or.inr (by rw [← e_u]; exact g15)), fun h => by rw [rgdN_t h] at g18; exact absurd g18 (by decide)⟩
                  exact ihl _ _ ls ⟨hW, hS, (i + 1), (rnd_t ht).symm, lv_sub hl [3, 4, 5, 6, 1, 0] rfl⟩
  · rintro k H locs ls hi ⟨hW, hS, hl⟩ ih
    obtain ⟨hFk, hfk⟩ := rDs_ok hF s0 k
    have hn := hFk.n
    obtain ⟨hk1, hk2⟩ := hN.1 k hi
    refine lv_iload_n hx hb dX8_drops_4 rfl (lv_at hl 3 rfl) ?_
    refine q_eq0 (tgt := 150) hx hb (by decide) dX8_drops_5 (by decide) (fun g19 => (by omega)) (fun g19 => ?_)
    refine lv_aload_n hx hb dX8_drops_8 rfl (lv_at hl 0 rfl) ?_
    refine lv_iload_n hx hb dX8_drops_9 rfl (lv_at hl 1 rfl) ?_
    refine q_v (va_runV (As := [.int (nI s0)]) (rest := []) ⟨hx, hb, hml, hown, hts⟩ (m_rkeptNow l G A (rDs ρ s0 k) bd hFk s0 (by omega)) (cwV 1 hts gX8_drops_X8_keptNow rfl rfl rfl (by decide +kernel) ⟨Nat.le_of_ble_eq_true rfl, Nat.le_of_ble_eq_true rfl⟩) ⟨rR.blind, qrecv hC (hW.to rLV0) rfl, rR.pre hC hW⟩ rfl rfl hl.1 rfl (lv_room (Nat.le_of_ble_eq_true rfl)) dX8_drops_10 ⟨Nat.le_of_ble_eq_true rfl, Nat.le_of_ble_eq_true rfl⟩) hS (fun _ h => h.elim) (fun locs hS => ?_)
    have hk9 := rkept_le hFk s0
    refine lv_aload_n hx hb dX8_drops_13 rfl (lv_at hl 0 rfl) ?_
    refine q_get (C := RX8) (T := TX8) (N := 36) hx hb hts iRX8 hown hC.1 (hW.to rLV0) rfl 30 (by decide) (hts (.fieldLink RX8 85 "LogWeaveModel" "budget" "[I") (List.mem_of_getElem? (i := 1) (by decide +kernel))) rfl (v := .ref (bd 25 0)) rfl dX8_drops_14 ?_
    refine lv_iload_n hx hb dX8_drops_17 rfl (lv_at hl 1 rfl) ?_
    refine r_iald hx hb hC.1 (hW.to rLV25) 1 rfl (i := s0) (by omega) (by decide) (v := nI ((rDs ρ s0 k) 48 s0)) rfl dX8_drops_18 ?_
    refine q_le (tgt := 150) hx hb (by omega) (q31 (hFk.1 _ _)) dX8_drops_19 (by decide) (fun g20 => ?_) (fun g20 => ?_)
    · skip
      omega
    · skip
      refine lv_iconst (v := -1) hx hb dX8_drops_22 (by decide) ?_
      refine lv_istore (lv' := [(4, .int (-1)), (0, .ref (bd 0 0)), (1, .int (nI s0)), (2, .int (nI k)), (3, .int (nI 1))]) hx hb dX8_drops_23 hl (by decide) rfl (fun ls hl => ?_)
      refine lv_iconst (v := nI 0) hx hb dX8_drops_25 (by decide) ?_
      refine lv_istore (lv' := [(5, .int (nI 0)), (4, .int (-1)), (0, .ref (bd 0 0)), (1, .int (nI s0)), (2, .int (nI k)), (3, .int (nI 1))]) hx hb dX8_drops_26 hl (by decide) rfl (fun ls hl => ?_)
      refine q_up ((rDs ρ s0 k) 0 0) (fun i H locs ls => rW G A (rDs ρ s0 k) bd H ∧ va_S A s.heap H locs ∧ ∃ (u : Nat), (u = rnd (rDs ρ s0 k) s0 i) ∧ lv_has ls 7 [(0, .ref (bd 0 0)), (1, .int (nI s0)), (2, .int (nI k)), (3, .int (nI 1)), (4, .int (nI u - 1)), (5, .int (nI i))]) ?_ ?_ (i0 := 0) (Nat.zero_le _) ⟨hW, hS, 0, rfl, lv_sub hl [2, 3, 4, 5, 1, 0] rfl⟩
      · rintro H locs ls ⟨hW, hS, u, e_u, hl⟩
        refine lv_iload hx hb dX8_drops_28 (lv_at hl 5 rfl) ?_
        refine lv_aload_n hx hb dX8_drops_30 rfl (lv_at hl 0 rfl) ?_
        refine q_get (C := RX8) (T := TX8) (N := 36) hx hb hts iRX8 hown hC.1 (hW.to rLV0) rfl 2 (by decide) (hts (.fieldLink RX8 104 "LogWeaveModel" "lines" "I") (List.mem_of_getElem? (i := 2) (by decide +kernel))) rfl (v := .int (nI ((rDs ρ s0 k) 0 0))) rfl dX8_drops_31 ?_
        refine q_ge (tgt := 119) hx hb (q31 (hFk.1 _ _)) (q31 (hFk.1 _ _)) dX8_drops_34 (by decide) (fun g21 => ?_) (fun g21 => (by omega))
        obtain ⟨d, hd⟩ : ∃ d, u = d + 1 := ⟨u - 1, by omega⟩
        have hdl := rnd_le (rDs ρ s0 k) s0 ((rDs ρ s0 k) 0 0)
        subst hd
        rw [nI_pred d] at hl
        have hd8 : d < 200 := by omega
        refine lv_iload hx hb dX8_drops_119 (lv_at hl 4 rfl) ?_
        refine lv_iconst (v := -1) hx hb dX8_drops_121 (by decide) ?_
        refine q_eqP hx hb (r_nm1 (by omega)) dX8_drops_122 (tgt := 129) (by decide) (fun g22 => absurd g22 (by omega)) (fun g22 => ?_)
        refine lv_iconst (v := nI 1) hx hb dX8_drops_125 (by decide) ?_
        refine lv_goto (tgt := 130) hx hb dX8_drops_126 (by decide) ?_
        refine lv_istore_n (lv' := [(3, .int (nI 1)), (0, .ref (bd 0 0)), (1, .int (nI s0)), (2, .int (nI k)), (4, .int (nI d)), (5, .int (nI ((rDs ρ s0 k) 0 0)))]) hx hb dX8_drops_130 rfl hl (by decide) rfl (fun ls hl => ?_)
        refine lv_iload_n hx hb dX8_drops_131 rfl (lv_at hl 0 rfl) ?_
        refine q_eq0 (tgt := 147) hx hb (by decide) dX8_drops_132 (by decide) (fun g23 => (by omega)) (fun g23 => ?_)
        refine lv_aload_n hx hb dX8_drops_135 rfl (lv_at hl 1 rfl) ?_
        refine q_get (C := RX8) (T := TX8) (N := 36) hx hb hts iRX8 hown hC.1 (hW.to rLV0) rfl 8 (by decide) (hts (.fieldLink RX8 25 "LogWeaveModel" "state" "[C") (List.mem_of_getElem? (i := 4) (by decide +kernel))) rfl (v := .ref (bd 6 0)) rfl dX8_drops_136 ?_
        refine lv_iload hx hb dX8_drops_139 (lv_at hl 4 rfl) ?_
        refine lv_bipush (v := nI 100) hx hb dX8_drops_141 (by decide) ?_
        refine q_cast hx hb hC.1 (hW.to rLV6) (hW.in rLV6) hS 3 rfl (vp_in_nI (n := d) (by omega) (by decide)) dX8_drops_143 (fun H1 locs hat hsz hoq hS => ?_)
        rw [nI_clamp (n := d) (by omega)] at hat
        rw [show vp_nar .char (nI 100) = nI 100 from by decide] at hat
        rw [r_upd (rDs ρ s0 k) 69 d 100] at hat
        have hW := hW.upR 69 d 100 rfl rLV6 (rLV6 (ρ := (qup (rDs ρ s0 k) 69 d 100))) hat hoq
        refine lv_iinc (v := nI (k + 1)) (lv' := [(2, .int (nI (k + 1))), (3, .int (nI 1)), (0, .ref (bd 0 0)), (1, .int (nI s0)), (4, .int (nI d)), (5, .int (nI ((rDs ρ s0 k) 0 0)))]) hx hb dX8_drops_144 hl (k := 3) rfl (nI_1 k) (by decide) rfl (fun ls hl => ?_)
        refine lv_goto (tgt := 4) hx hb dX8_drops_147 (by decide) ?_
        exact ih _ _ ls ⟨(by rw [rDs, ← e_u, Nat.add_sub_cancel]; exact hW), hS, lv_sub hl [2, 3, 0, 1] rfl⟩
      · rintro i H locs ls hi ⟨hW, hS, u, e_u, hl⟩ ihl
        have hu : u ≤ i := by rw [e_u]; exact rnd_le _ _ _
        refine lv_iload hx hb dX8_drops_28 (lv_at hl 5 rfl) ?_
        refine lv_aload_n hx hb dX8_drops_30 rfl (lv_at hl 0 rfl) ?_
        refine q_get (C := RX8) (T := TX8) (N := 36) hx hb hts iRX8 hown hC.1 (hW.to rLV0) rfl 2 (by decide) (hts (.fieldLink RX8 104 "LogWeaveModel" "lines" "I") (List.mem_of_getElem? (i := 2) (by decide +kernel))) rfl (v := .int (nI ((rDs ρ s0 k) 0 0))) rfl dX8_drops_31 ?_
        refine q_ge (tgt := 119) hx hb (by omega) (q31 (hFk.1 _ _)) dX8_drops_34 (by decide) (fun g24 => (by omega)) (fun g24 => ?_)
        refine lv_aload_n hx hb dX8_drops_37 rfl (lv_at hl 0 rfl) ?_
        refine q_get (C := RX8) (T := TX8) (N := 36) hx hb hts iRX8 hown hC.1 (hW.to rLV0) rfl 3 (by decide) (hts (.fieldLink RX8 7 "LogWeaveModel" "source" "[I") (List.mem_of_getElem? (i := 3) (by decide +kernel))) rfl (v := .ref (bd 1 0)) rfl dX8_drops_38 ?_
        refine lv_iload hx hb dX8_drops_41 (lv_at hl 5 rfl) ?_
        refine r_iald hx hb hC.1 (hW.to rLV1) 1 rfl (i := i) (by omega) (by decide) (v := nI ((rDs ρ s0 k) 64 i)) rfl dX8_drops_43 ?_
        refine lv_iload_n hx hb dX8_drops_44 rfl (lv_at hl 1 rfl) ?_
        refine q_ne (tgt := 87) hx hb (q31 (hFk.1 _ _)) (by omega) dX8_drops_45 (by decide) (fun g25 => ?_) (fun g25 => ?_)
        · skip
          refine lv_iconst (v := nI 0) hx hb dX8_drops_87 (by decide) ?_
          refine lv_istore (lv' := [(6, .int (nI 0)), (0, .ref (bd 0 0)), (1, .int (nI s0)), (2, .int (nI k)), (3, .int (nI 1)), (4, .int (nI u - 1)), (5, .int (nI i))]) hx hb dX8_drops_88 hl (by decide) rfl (fun ls hl => ?_)
          refine lv_iload hx hb dX8_drops_90 (lv_at hl 0 rfl) ?_
          refine q_eq0 (tgt := 109) hx hb (by decide) dX8_drops_92 (by decide) (fun g26 => ?_) (fun g26 => (by omega))
          refine lv_iload hx hb dX8_drops_109 (lv_at hl 5 rfl) ?_
          refine lv_istore (lv' := [(4, .int (nI u - 1)), (6, .int (nI 0)), (0, .ref (bd 0 0)), (1, .int (nI s0)), (2, .int (nI k)), (3, .int (nI 1)), (5, .int (nI i))]) hx hb dX8_drops_111 hl (by decide) rfl (fun ls hl => ?_)
          refine lv_iinc (v := nI (i + 1)) (lv' := [(5, .int (nI (i + 1))), (4, .int (nI u - 1)), (6, .int (nI 0)), (0, .ref (bd 0 0)), (1, .int (nI s0)), (2, .int (nI k)), (3, .int (nI 1))]) hx hb dX8_drops_113 hl (k := 6) rfl (nI_1 i) (by decide) rfl (fun ls hl => ?_)
          refine lv_goto (tgt := 28) hx hb dX8_drops_116 (by decide) ?_
          exact ihl _ _ ls ⟨hW, hS, u, by rw [rnd_f (fun h => g25 h.1)]; exact e_u, lv_sub hl [3, 4, 5, 6, 1, 0] rfl⟩
        · skip
          refine lv_aload_n hx hb dX8_drops_48 rfl (lv_at hl 0 rfl) ?_
          refine q_get (C := RX8) (T := TX8) (N := 36) hx hb hts iRX8 hown hC.1 (hW.to rLV0) rfl 8 (by decide) (hts (.fieldLink RX8 25 "LogWeaveModel" "state" "[C") (List.mem_of_getElem? (i := 4) (by decide +kernel))) rfl (v := .ref (bd 6 0)) rfl dX8_drops_49 ?_
          refine lv_iload hx hb dX8_drops_52 (lv_at hl 5 rfl) ?_
          refine r_cald hx hb hC.1 (hW.to rLV6) 3 rfl (i := i) (by omega) (by decide) (v := nI ((rDs ρ s0 k) 69 i)) rfl dX8_drops_54 ?_
          refine lv_bipush (v := nI 107) hx hb dX8_drops_55 (by decide) ?_
          refine q_ne (tgt := 87) hx hb (q31 (hFk.1 _ _)) (by decide) dX8_drops_57 (by decide) (fun g27 => ?_) (fun g27 => ?_)
          · skip
            refine lv_iconst (v := nI 0) hx hb dX8_drops_87 (by decide) ?_
            refine lv_istore (lv' := [(6, .int (nI 0)), (0, .ref (bd 0 0)), (1, .int (nI s0)), (2, .int (nI k)), (3, .int (nI 1)), (4, .int (nI u - 1)), (5, .int (nI i))]) hx hb dX8_drops_88 hl (by decide) rfl (fun ls hl => ?_)
            refine lv_iload hx hb dX8_drops_90 (lv_at hl 0 rfl) ?_
            refine q_eq0 (tgt := 109) hx hb (by decide) dX8_drops_92 (by decide) (fun g28 => ?_) (fun g28 => (by omega))
            refine lv_iload hx hb dX8_drops_109 (lv_at hl 5 rfl) ?_
            refine lv_istore (lv' := [(4, .int (nI u - 1)), (6, .int (nI 0)), (0, .ref (bd 0 0)), (1, .int (nI s0)), (2, .int (nI k)), (3, .int (nI 1)), (5, .int (nI i))]) hx hb dX8_drops_111 hl (by decide) rfl (fun ls hl => ?_)
            refine lv_iinc (v := nI (i + 1)) (lv' := [(5, .int (nI (i + 1))), (4, .int (nI u - 1)), (6, .int (nI 0)), (0, .ref (bd 0 0)), (1, .int (nI s0)), (2, .int (nI k)), (3, .int (nI 1))]) hx hb dX8_drops_113 hl (k := 6) rfl (nI_1 i) (by decide) rfl (fun ls hl => ?_)
            refine lv_goto (tgt := 28) hx hb dX8_drops_116 (by decide) ?_
            exact ihl _ _ ls ⟨hW, hS, u, by rw [rnd_f (fun h => g27 h.2.1)]; exact e_u, lv_sub hl [3, 4, 5, 6, 1, 0] rfl⟩
          · skip
            refine lv_iload hx hb dX8_drops_60 (lv_at hl 4 rfl) ?_
            refine lv_iconst (v := -1) hx hb dX8_drops_62 (by decide) ?_
            refine q_eqP hx hb (q_m0 (by omega)) dX8_drops_63 (tgt := 83) (by decide) (fun g29 => ?_) (fun g29 => ?_)
            · skip
              refine lv_iconst (v := nI 1) hx hb dX8_drops_83 (by decide) ?_
              refine lv_goto (tgt := 88) hx hb dX8_drops_84 (by decide) ?_
              refine lv_istore (lv' := [(6, .int (nI 1)), (0, .ref (bd 0 0)), (1, .int (nI s0)), (2, .int (nI k)), (3, .int (nI 1)), (4, .int (nI u - 1)), (5, .int (nI i))]) hx hb dX8_drops_88 hl (by decide) rfl (fun ls hl => ?_)
              refine lv_iload hx hb dX8_drops_90 (lv_at hl 0 rfl) ?_
              refine q_eq0 (tgt := 109) hx hb (by decide) dX8_drops_92 (by decide) (fun g30 => (by omega)) (fun g30 => ?_)
              refine lv_aload_n hx hb dX8_drops_95 rfl (lv_at hl 1 rfl) ?_
              refine lv_iload hx hb dX8_drops_96 (lv_at hl 6 rfl) ?_
              refine q_v (va_runV (As := [.int (nI i)]) (rest := []) ⟨hx, hb, hml, hown, hts⟩ (m_rguarded l G A (rDs ρ s0 k) bd hFk i hi) (cwV 1 hts gX8_drops_X8_isGuardedNow rfl rfl rfl (by decide +kernel) ⟨Nat.le_of_ble_eq_true rfl, Nat.le_of_ble_eq_true rfl⟩) ⟨rR.blind, qrecv hC (hW.to rLV0) rfl, rR.pre hC hW⟩ rfl rfl hl.1 rfl (lv_room (Nat.le_of_ble_eq_true rfl)) dX8_drops_98 ⟨Nat.le_of_ble_eq_true rfl, Nat.le_of_ble_eq_true rfl⟩) hS (fun _ h => h.elim) (fun locs hS => ?_)
              refine q_ne0 (tgt := 109) hx hb (by have := rgdN_le (rDs ρ s0 k) i; omega) dX8_drops_101 (by decide) (fun g31 => ?_) (fun g31 => ?_)
              · skip
                refine lv_iload hx hb dX8_drops_109 (lv_at hl 5 rfl) ?_
                refine lv_istore (lv' := [(4, .int (nI u - 1)), (6, .int (nI 1)), (0, .ref (bd 0 0)), (1, .int (nI s0)), (2, .int (nI k)), (3, .int (nI 1)), (5, .int (nI i))]) hx hb dX8_drops_111 hl (by decide) rfl (fun ls hl => ?_)
                refine lv_iinc (v := nI (i + 1)) (lv' := [(5, .int (nI (i + 1))), (4, .int (nI u - 1)), (6, .int (nI 1)), (0, .ref (bd 0 0)), (1, .int (nI s0)), (2, .int (nI k)), (3, .int (nI 1))]) hx hb dX8_drops_113 hl (k := 6) rfl (nI_1 i) (by decide) rfl (fun ls hl => ?_)
                refine lv_goto (tgt := 28) hx hb dX8_drops_116 (by decide) ?_
                exact ihl _ _ ls ⟨hW, hS, u, by rw [rnd_f (fun h => g31 (rgdN_f h.2.2.2))]; exact e_u, lv_sub hl [3, 4, 5, 6, 1, 0] rfl⟩
              · skip
                refine lv_iload hx hb dX8_drops_104 (lv_at hl 6 rfl) ?_
                refine lv_goto (tgt := 111) hx hb dX8_drops_106 (by decide) ?_
                refine lv_istore (lv' := [(4, .int (nI i)), (6, .int (nI 1)), (0, .ref (bd 0 0)), (1, .int (nI s0)), (2, .int (nI k)), (3, .int (nI 1)), (5, .int (nI i))]) hx hb dX8_drops_111 hl (by decide) rfl (fun ls hl => ?_)
                refine lv_iinc (v := nI (i + 1)) (lv' := [(5, .int (nI (i + 1))), (4, .int (nI i)), (6, .int (nI 1)), (0, .ref (bd 0 0)), (1, .int (nI s0)), (2, .int (nI k)), (3, .int (nI 1))]) hx hb dX8_drops_113 hl (k := 6) rfl (nI_1 i) (by decide) rfl (fun ls hl => ?_)
                refine lv_goto (tgt := 28) hx hb dX8_drops_116 (by decide) ?_
                rw [← nI_pred i] at hl
                have ht : rmay (rDs ρ s0 k) s0 i (rnd (rDs ρ s0 k) s0 i) := ⟨g25, g27, (Or.inl (by rw [← e_u]; exact g29)), fun h => by rw [rgdN_t h] at g31; exact absurd g31 (by decide)⟩
                exact ihl _ _ ls ⟨hW, hS, (i + 1), (rnd_t ht).symm, lv_sub hl [3, 4, 5, 6, 1, 0] rfl⟩
            · skip
              refine lv_aload_n hx hb dX8_drops_66 rfl (lv_at hl 0 rfl) ?_
              refine q_get (C := RX8) (T := TX8) (N := 36) hx hb hts iRX8 hown hC.1 (hW.to rLV0) rfl 4 (by decide) (hts (.fieldLink RX8 13 "LogWeaveModel" "rank" "[I") (List.mem_of_getElem? (i := 5) (by decide +kernel))) rfl (v := .ref (bd 2 0)) rfl dX8_drops_67 ?_
              refine lv_iload hx hb dX8_drops_70 (lv_at hl 5 rfl) ?_
              refine r_iald hx hb hC.1 (hW.to rLV2) 1 rfl (i := i) (by omega) (by decide) (v := nI ((rDs ρ s0 k) 65 i)) rfl dX8_drops_72 ?_
              refine lv_aload_n hx hb dX8_drops_73 rfl (lv_at hl 0 rfl) ?_
              refine q_get (C := RX8) (T := TX8) (N := 36) hx hb hts iRX8 hown hC.1 (hW.to rLV0) rfl 4 (by decide) (hts (.fieldLink RX8 13 "LogWeaveModel" "rank" "[I") (List.mem_of_getElem? (i := 5) (by decide +kernel))) rfl (v := .ref (bd 2 0)) rfl dX8_drops_74 ?_
              refine lv_iload hx hb dX8_drops_77 (lv_at hl 4 rfl) ?_
              refine q_ti (q_pred (by omega)) ?_
              refine r_iald hx hb hC.1 (hW.to rLV2) 1 rfl (i := (u - 1)) (by omega) (by decide) (v := nI ((rDs ρ s0 k) 65 (u - 1))) rfl dX8_drops_79 ?_
              refine q_ge (tgt := 87) hx hb (q31 (hFk.1 _ _)) (q31 (hFk.1 _ _)) dX8_drops_80 (by decide) (fun g32 => ?_) (fun g32 => ?_)
              · skip
                refine lv_iconst (v := nI 0) hx hb dX8_drops_87 (by decide) ?_
                refine lv_istore (lv' := [(6, .int (nI 0)), (0, .ref (bd 0 0)), (1, .int (nI s0)), (2, .int (nI k)), (3, .int (nI 1)), (4, .int (nI u - 1)), (5, .int (nI i))]) hx hb dX8_drops_88 hl (by decide) rfl (fun ls hl => ?_)
                refine lv_iload hx hb dX8_drops_90 (lv_at hl 0 rfl) ?_
                refine q_eq0 (tgt := 109) hx hb (by decide) dX8_drops_92 (by decide) (fun g33 => ?_) (fun g33 => (by omega))
                refine lv_iload hx hb dX8_drops_109 (lv_at hl 5 rfl) ?_
                refine lv_istore (lv' := [(4, .int (nI u - 1)), (6, .int (nI 0)), (0, .ref (bd 0 0)), (1, .int (nI s0)), (2, .int (nI k)), (3, .int (nI 1)), (5, .int (nI i))]) hx hb dX8_drops_111 hl (by decide) rfl (fun ls hl => ?_)
                refine lv_iinc (v := nI (i + 1)) (lv' := [(5, .int (nI (i + 1))), (4, .int (nI u - 1)), (6, .int (nI 0)), (0, .ref (bd 0 0)), (1, .int (nI s0)), (2, .int (nI k)), (3, .int (nI 1))]) hx hb dX8_drops_113 hl (k := 6) rfl (nI_1 i) (by decide) rfl (fun ls hl => ?_)
                refine lv_goto (tgt := 28) hx hb dX8_drops_116 (by decide) ?_
                exact ihl _ _ ls ⟨hW, hS, u, by rw [rnd_f (fun h => by rw [← e_u] at h; have := h.2.2.1; omega)]; exact e_u, lv_sub hl [3, 4, 5, 6, 1, 0] rfl⟩
              · skip
                refine lv_iconst (v := nI 1) hx hb dX8_drops_83 (by decide) ?_
                refine lv_goto (tgt := 88) hx hb dX8_drops_84 (by decide) ?_
                refine lv_istore (lv' := [(6, .int (nI 1)), (0, .ref (bd 0 0)), (1, .int (nI s0)), (2, .int (nI k)), (3, .int (nI 1)), (4, .int (nI u - 1)), (5, .int (nI i))]) hx hb dX8_drops_88 hl (by decide) rfl (fun ls hl => ?_)
                refine lv_iload hx hb dX8_drops_90 (lv_at hl 0 rfl) ?_
                refine q_eq0 (tgt := 109) hx hb (by decide) dX8_drops_92 (by decide) (fun g34 => (by omega)) (fun g34 => ?_)
                refine lv_aload_n hx hb dX8_drops_95 rfl (lv_at hl 1 rfl) ?_
                refine lv_iload hx hb dX8_drops_96 (lv_at hl 6 rfl) ?_
                refine q_v (va_runV (As := [.int (nI i)]) (rest := []) ⟨hx, hb, hml, hown, hts⟩ (m_rguarded l G A (rDs ρ s0 k) bd hFk i hi) (cwV 1 hts gX8_drops_X8_isGuardedNow rfl rfl rfl (by decide +kernel) ⟨Nat.le_of_ble_eq_true rfl, Nat.le_of_ble_eq_true rfl⟩) ⟨rR.blind, qrecv hC (hW.to rLV0) rfl, rR.pre hC hW⟩ rfl rfl hl.1 rfl (lv_room (Nat.le_of_ble_eq_true rfl)) dX8_drops_98 ⟨Nat.le_of_ble_eq_true rfl, Nat.le_of_ble_eq_true rfl⟩) hS (fun _ h => h.elim) (fun locs hS => ?_)
                refine q_ne0 (tgt := 109) hx hb (by have := rgdN_le (rDs ρ s0 k) i; omega) dX8_drops_101 (by decide) (fun g35 => ?_) (fun g35 => ?_)
                · skip
                  refine lv_iload hx hb dX8_drops_109 (lv_at hl 5 rfl) ?_
                  refine lv_istore (lv' := [(4, .int (nI u - 1)), (6, .int (nI 1)), (0, .ref (bd 0 0)), (1, .int (nI s0)), (2, .int (nI k)), (3, .int (nI 1)), (5, .int (nI i))]) hx hb dX8_drops_111 hl (by decide) rfl (fun ls hl => ?_)
                  refine lv_iinc (v := nI (i + 1)) (lv' := [(5, .int (nI (i + 1))), (4, .int (nI u - 1)), (6, .int (nI 1)), (0, .ref (bd 0 0)), (1, .int (nI s0)), (2, .int (nI k)), (3, .int (nI 1))]) hx hb dX8_drops_113 hl (k := 6) rfl (nI_1 i) (by decide) rfl (fun ls hl => ?_)
                  refine lv_goto (tgt := 28) hx hb dX8_drops_116 (by decide) ?_
                  exact ihl _ _ ls ⟨hW, hS, u, by rw [rnd_f (fun h => g35 (rgdN_f h.2.2.2))]; exact e_u, lv_sub hl [3, 4, 5, 6, 1, 0] rfl⟩
                · skip
                  refine lv_iload hx hb dX8_drops_104 (lv_at hl 6 rfl) ?_
                  refine lv_goto (tgt := 111) hx hb dX8_drops_106 (by decide) ?_
                  refine lv_istore (lv' := [(4, .int (nI i)), (6, .int (nI 1)), (0, .ref (bd 0 0)), (1, .int (nI s0)), (2, .int (nI k)), (3, .int (nI 1)), (5, .int (nI i))]) hx hb dX8_drops_111 hl (by decide) rfl (fun ls hl => ?_)
                  refine lv_iinc (v := nI (i + 1)) (lv' := [(5, .int (nI (i + 1))), (4, .int (nI i)), (6, .int (nI 1)), (0, .ref (bd 0 0)), (1, .int (nI s0)), (2, .int (nI k)), (3, .int (nI 1))]) hx hb dX8_drops_113 hl (k := 6) rfl (nI_1 i) (by decide) rfl (fun ls hl => ?_)
                  refine lv_goto (tgt := 28) hx hb dX8_drops_116 (by decide) ?_
                  rw [← nI_pred i] at hl
                  have ht : rmay (rDs ρ s0 k) s0 i (rnd (rDs ρ s0 k) s0 i) := ⟨g25, g27, (Or.inr (by rw [← e_u]; exact g32)), fun h => by rw [rgdN_t h] at g35; exact absurd g35 (by decide)⟩
                  exact ihl _ _ ls ⟨hW, hS, (i + 1), (rnd_t ht).symm, lv_sub hl [3, 4, 5, 6, 1, 0] rfl⟩
/-- the turns of looking at all sources -/
noncomputable def rDa (ρ : QSt) (N : Nat → Nat) : Nat → QSt
  | 0 => ρ
  | s0 + 1 => rDs (rDa ρ N s0) s0 (N s0)
theorem rDa_ok {ρ : QSt} (h : rWF ρ) (N : Nat → Nat) : ∀ i, rWF (rDa ρ N i) ∧ ∀ r j, r ≠ 69 → rDa ρ N i r j = ρ r j
  | 0 => ⟨h, fun _ _ _ => rfl⟩
  | i + 1 => by
    obtain ⟨g1, g2⟩ := rDa_ok h N i
    obtain ⟨k1, k2⟩ := rDs_ok g1 i (N i)
    exact ⟨k1, fun r j hr => (k2 r j hr).trans (g2 r j hr)⟩
set_option maxHeartbeats 4000000 in
set_option maxRecDepth 100000 in
theorem m_rdropsAll (l : Launch) (G : QG) (A : Nat → Prop) (ρ bd : QSt) (hF : rWF ρ) (N : Nat → Nat) (hN : ∀ s0, s0 < 4 → rDrp (rDa ρ N s0) s0 (N s0)) : Met l yX8_dropsAll wsX8_dropsAll ({ frames := 3, cells := 0, slots := 0, locals := 72 } : Room) (rR G A ρ bd [.ref (bd 0 0)]) (qWV (some (.int (nI (N 0 + N 1 + N 2 + N 3)))) (rW G A (rDa ρ N 4) bd) A) 0 0 A := by
  refine Met.ofW (cc := cX8_dropsAll) (maxL := 1) (ret := (some .int)) (by decide) rfl ?_
  intro p e s m args below meth c s₁ B hml hv
  obtain ⟨rfl, hC, hW⟩ := hv
  have hx := B.exec
  have hb := B.bytes
  have hr := B.returns
  have hts := atoms_spec (ws := wsX8_dropsAll) B.pre
  have hown : s.vm.findClass RX8 = some m.cls := findClass_of_methodNamed B.named
  have hlocks := B.notSynchronized
  have hB := hF.1
  have hn := hF.n
  have hS : va_S A s.heap s.heap [] := va_S.rf
  have hl := lv_entry ([.ref (bd 0 0)]) (n := 1) (Nat.le_of_ble_eq_true rfl)
  rw [lg_entry_eq]
  generalize (lg_sl ([.ref (bd 0 0)]) ++ List.replicate (1 - (lg_sl ([.ref (bd 0 0)])).length) Slot.unset).toArray = ls at hl ⊢
  have hl : lv_has ls 1 [(0, .ref (bd 0 0))] := hl
  have iRX8 : ∀ w ∈ wsX80, w ∈ wsX8_dropsAll := by decide +kernel
  refine lv_aload_n hx hb dX8_dropsAll_0 rfl (lv_at hl 0 rfl) ?_
  refine lv_iconst (v := nI 0) hx hb dX8_dropsAll_1 (by decide) ?_
  have hF0 := (rDa_ok hF N 0).1
  refine q_wv (va_runV (As := [.int (nI 0)]) (rest := []) ⟨hx, hb, hml, hown, hts⟩ (m_rdrops l G A (rDa ρ N 0) bd hF0 0 (N 0) (by decide) (hN 0 (by decide))) (cwV 1 hts gX8_dropsAll_X8_drops rfl rfl rfl (by decide +kernel) ⟨Nat.le_of_ble_eq_true rfl, Nat.le_of_ble_eq_true rfl⟩) ⟨rR.blind, qrecv hC (hW.to rLV0) rfl, rR.pre hC hW⟩ rfl rfl hl.1 rfl (lv_room (Nat.le_of_ble_eq_true rfl)) dX8_dropsAll_2 ⟨Nat.le_of_ble_eq_true rfl, Nat.le_of_ble_eq_true rfl⟩) hS (fun _ h => h) (fun _ h => h) (fun H1 locs hW hz hk hS => ?_)
  refine lv_aload_n hx hb dX8_dropsAll_5 rfl (lv_at hl 0 rfl) ?_
  refine lv_iconst (v := nI 1) hx hb dX8_dropsAll_6 (by decide) ?_
  have hF1 := (rDa_ok hF N 1).1
  refine q_wv (va_runV (As := [.int (nI 1)]) (rest := [.int (nI (N 0))]) ⟨hx, hb, hml, hown, hts⟩ (m_rdrops l G A (rDa ρ N 1) bd hF1 1 (N 1) (by decide) (hN 1 (by decide))) (cwV 1 hts gX8_dropsAll_X8_drops rfl rfl rfl (by decide +kernel) ⟨Nat.le_of_ble_eq_true rfl, Nat.le_of_ble_eq_true rfl⟩) ⟨rR.blind, qrecv hC (hW.to rLV0) rfl, rR.pre hC hW⟩ rfl rfl hl.1 rfl (lv_room (Nat.le_of_ble_eq_true rfl)) dX8_dropsAll_7 ⟨Nat.le_of_ble_eq_true rfl, Nat.le_of_ble_eq_true rfl⟩) hS (fun _ h => h) (fun _ h => h) (fun H2 locs hW hz hk hS => ?_)
  refine lv_iadd hx hb dX8_dropsAll_10 ?_
  refine q_ti (nI_add (N 0) (N 1)) ?_
  refine lv_aload_n hx hb dX8_dropsAll_11 rfl (lv_at hl 0 rfl) ?_
  refine lv_iconst (v := nI 2) hx hb dX8_dropsAll_12 (by decide) ?_
  have hF2 := (rDa_ok hF N 2).1
  refine q_wv (va_runV (As := [.int (nI 2)]) (rest := [.int (nI ((N 0) + (N 1)))]) ⟨hx, hb, hml, hown, hts⟩ (m_rdrops l G A (rDa ρ N 2) bd hF2 2 (N 2) (by decide) (hN 2 (by decide))) (cwV 1 hts gX8_dropsAll_X8_drops rfl rfl rfl (by decide +kernel) ⟨Nat.le_of_ble_eq_true rfl, Nat.le_of_ble_eq_true rfl⟩) ⟨rR.blind, qrecv hC (hW.to rLV0) rfl, rR.pre hC hW⟩ rfl rfl hl.1 rfl (lv_room (Nat.le_of_ble_eq_true rfl)) dX8_dropsAll_13 ⟨Nat.le_of_ble_eq_true rfl, Nat.le_of_ble_eq_true rfl⟩) hS (fun _ h => h) (fun _ h => h) (fun H3 locs hW hz hk hS => ?_)
  refine lv_iadd hx hb dX8_dropsAll_16 ?_
  refine q_ti (nI_add ((N 0) + (N 1)) (N 2)) ?_
  refine lv_aload_n hx hb dX8_dropsAll_17 rfl (lv_at hl 0 rfl) ?_
  refine lv_iconst (v := nI 3) hx hb dX8_dropsAll_18 (by decide) ?_
  have hF3 := (rDa_ok hF N 3).1
  refine q_wv (va_runV (As := [.int (nI 3)]) (rest := [.int (nI (((N 0) + (N 1)) + (N 2)))]) ⟨hx, hb, hml, hown, hts⟩ (m_rdrops l G A (rDa ρ N 3) bd hF3 3 (N 3) (by decide) (hN 3 (by decide))) (cwV 1 hts gX8_dropsAll_X8_drops rfl rfl rfl (by decide +kernel) ⟨Nat.le_of_ble_eq_true rfl, Nat.le_of_ble_eq_true rfl⟩) ⟨rR.blind, qrecv hC (hW.to rLV0) rfl, rR.pre hC hW⟩ rfl rfl hl.1 rfl (lv_room (Nat.le_of_ble_eq_true rfl)) dX8_dropsAll_19 ⟨Nat.le_of_ble_eq_true rfl, Nat.le_of_ble_eq_true rfl⟩) hS (fun _ h => h) (fun _ h => h) (fun H4 locs hW hz hk hS => ?_)
  refine lv_iadd hx hb dX8_dropsAll_22 ?_
  refine q_ti (nI_add (((N 0) + (N 1)) + (N 2)) (N 3)) ?_
  exact W.iret hx hb hr (fun t ht _ => ⟨rfl, by rw [ht]; exact hW, hS.F ht⟩) hS.2.2 dX8_dropsAll_23
