theorem qfLs_ok (s0 : Nat) : ∀ n σ, qWF σ → qWF (qfLs σ s0 n).1 ∧ (∀ r j, r ≠ 69 → (qfLs σ s0 n).1 r j = σ r j) ∧ (qfLs σ s0 n).2 ≤ n
  | 0, σ, h => ⟨h, fun _ _ _ => rfl, Nat.le_refl _⟩
  | n + 1, σ, h => by
    rw [qfLs]
    split
    · split
      · exact ⟨h, fun _ _ _ => rfl, Nat.zero_le _⟩
      · next l _ =>
        obtain ⟨h1, h2, h3⟩ := qfLs_ok s0 n (qup σ 69 l 100) (h.up 69 l 100 (by decide) (by decide) (by decide) (fun z => absurd z (by decide)) (fun _ => by decide) (fun z => absurd z (by decide)) (fun z => absurd z (by decide)))
        exact ⟨h1, fun r j hr => (h2 r j hr).trans (qup_k hr), Nat.succ_le_succ h3⟩
    · exact ⟨h, fun _ _ _ => rfl, Nat.zero_le _⟩
/-- all sources are looked at -/
def qfAs (σ : QSt) : Nat → QSt × Nat
  | 0 => (σ, 0)
  | i + 1 => ((qfLs (qfAs σ i).1 i 200).1, (qfAs σ i).2 + (qfLs (qfAs σ i).1 i 200).2)
theorem qfAs_ok {σ : QSt} (h : qWF σ) : ∀ i, qWF (qfAs σ i).1 ∧ (∀ r j, r ≠ 69 → (qfAs σ i).1 r j = σ r j) ∧ (qfAs σ i).2 ≤ 200 * i
  | 0 => ⟨h, fun _ _ _ => rfl, Nat.zero_le _⟩
  | i + 1 => by
    obtain ⟨h1, h2, h3⟩ := qfAs_ok h i
    obtain ⟨g1, g2, g3⟩ := qfLs_ok i 200 _ h1
    exact ⟨g1, fun r j hr => (g2 r j hr).trans (h2 r j hr), by show (qfAs σ i).2 + (qfLs (qfAs σ i).1 i 200).2 ≤ _; omega⟩

set_option maxHeartbeats 4000000 in
set_option maxRecDepth 100000 in
theorem m_lookAtAllSources (l : Launch) (G : QG) (es : Nat) (A : Nat → Prop) (σ ad : QSt) (hF : qWF σ)  : Met l yX7_lookAtAllSources wsX7_lookAtAllSources ({ frames := 5, cells := 0, slots := 0, locals := 112 } : Room) (qW G es A σ ad [.ref (ad 0 0)]) (qWV (some (.int (nI (qfAs σ 4).2))) (qLW G es A (qfAs σ 4).1 ad) A) 0 0 A := by
  refine Met.ofW (cc := cX7_lookAtAllSources) (maxL := 3) (ret := (some .int)) (by decide) rfl ?_
  intro p e s m args below meth c s₁ B hml hv
  obtain ⟨rfl, hC, hW, hZ, hA⟩ := hv
  have hx := B.exec
  have hb := B.bytes
  have hr := B.returns
  have hts := atoms_spec (ws := wsX7_lookAtAllSources) B.pre
  have hown : s.vm.findClass RX7 = some m.cls := findClass_of_methodNamed B.named
  have hlocks := B.notSynchronized
  have hB := hF.1
  have hn := hF.n
  have hS : va_S A s.heap s.heap [] := va_S.rf
  have hl := lv_entry ([.ref (ad 0 0)]) (n := 3) (Nat.le_of_ble_eq_true rfl)
  rw [lg_entry_eq]
  generalize (lg_sl ([.ref (ad 0 0)]) ++ List.replicate (3 - (lg_sl ([.ref (ad 0 0)])).length) Slot.unset).toArray = ls at hl ⊢
  have hl : lv_has ls 3 [(0, .ref (ad 0 0))] := hl
  have iRX7 : ∀ w ∈ wsX70, w ∈ wsX7_lookAtAllSources := by decide +kernel
  have hI := qfAs_ok hF
  refine lv_iconst (v := nI 0) hx hb dX7_lookAtAllSources_0 (by decide) ?_
  refine lv_istore_n (lv' := [(1, .int (nI 0)), (0, .ref (ad 0 0))]) hx hb dX7_lookAtAllSources_1 rfl hl (by decide) rfl (fun ls hl => ?_)
  refine lv_iconst (v := nI 0) hx hb dX7_lookAtAllSources_2 (by decide) ?_
  refine lv_istore_n (lv' := [(2, .int (nI 0)), (1, .int (nI 0)), (0, .ref (ad 0 0))]) hx hb dX7_lookAtAllSources_3 rfl hl (by decide) rfl (fun ls hl => ?_)
  refine q_up 4 (fun i H locs ls => qLW G es A (qfAs σ i).1 ad H ∧ va_S A s.heap H locs ∧ lv_has ls 3 [(0, .ref (ad 0 0)), (1, .int (nI ((qfAs σ i).2))), (2, .int (nI i))]) ?_ ?_ (i0 := 0) (Nat.zero_le _) ⟨hW, hS, lv_sub hl [2, 1, 0] rfl⟩
  · rintro H locs ls ⟨hW, hS, hl⟩
    refine lv_iload_n hx hb dX7_lookAtAllSources_4 rfl (lv_at hl 2 rfl) ?_
    refine lv_iconst (v := nI 4) hx hb dX7_lookAtAllSources_5 (by decide) ?_
    refine q_ge (tgt := 23) hx hb (by decide) (by decide) dX7_lookAtAllSources_6 (by decide) (fun g1 => ?_) (fun g1 => (by omega))
    refine lv_iload_n hx hb dX7_lookAtAllSources_23 rfl (lv_at hl 1 rfl) ?_
    exact W.iret hx hb hr (fun t ht _ => ⟨rfl, by rw [ht]; exact hW, hS.F ht⟩) hS.2.2 dX7_lookAtAllSources_24
  · rintro i H locs ls hi ⟨hW, hS, hl⟩ ih
    obtain ⟨hF9, hR, -⟩ := hI i
    refine lv_iload_n hx hb dX7_lookAtAllSources_4 rfl (lv_at hl 2 rfl) ?_
    refine lv_iconst (v := nI 4) hx hb dX7_lookAtAllSources_5 (by decide) ?_
    refine q_ge (tgt := 23) hx hb (by omega) (by decide) dX7_lookAtAllSources_6 (by decide) (fun g2 => (by omega)) (fun g2 => ?_)
    refine lv_iload_n hx hb dX7_lookAtAllSources_9 rfl (lv_at hl 1 rfl) ?_
    refine lv_aload_n hx hb dX7_lookAtAllSources_10 rfl (lv_at hl 0 rfl) ?_
    refine lv_iload_n hx hb dX7_lookAtAllSources_11 rfl (lv_at hl 2 rfl) ?_
    refine q_wv (va_runV (As := [.int (nI i)]) (rest := [.int (nI ((qfAs σ i).2))]) ⟨hx, hb, hml, hown, hts⟩ (m_lookAtSource l G es A (qfAs σ i).1 ad hF9 i hi) (cwV 1 hts gX7_lookAtAllSources_X7_lookAtSource rfl rfl rfl (by decide +kernel) ⟨Nat.le_of_ble_eq_true rfl, Nat.le_of_ble_eq_true rfl⟩) ⟨qW.blind, qrecv hC (hW.to qLV0) rfl, qW.pre hC hW hZ hS (fun _ h => h) (fun q h => hA q (Nat.le_trans hS.1 h))⟩ rfl rfl hl.1 rfl (lv_room (Nat.le_of_ble_eq_true rfl)) dX7_lookAtAllSources_12 ⟨Nat.le_of_ble_eq_true rfl, Nat.le_of_ble_eq_true rfl⟩) hS (fun _ h => h) (fun _ h => h) (fun H locs hW hz hk hS => ?_)
    refine lv_iadd hx hb dX7_lookAtAllSources_15 ?_
    refine q_ti (nI_add ((qfAs σ i).2) ((qfLs (qfAs σ i).1 i 200).2)) ?_
    refine q_ti (y := nI ((qfAs σ (i + 1)).2)) rfl ?_
    refine lv_istore_n (lv' := [(1, .int (nI ((qfAs σ (i + 1)).2))), (0, .ref (ad 0 0)), (2, .int (nI i))]) hx hb dX7_lookAtAllSources_16 rfl hl (by decide) rfl (fun ls hl => ?_)
    refine lv_iinc (v := nI (i + 1)) (lv' := [(2, .int (nI (i + 1))), (1, .int (nI ((qfAs σ (i + 1)).2))), (0, .ref (ad 0 0))]) hx hb dX7_lookAtAllSources_17 hl (k := 2) rfl (nI_1 i) (by decide) rfl (fun ls hl => ?_)
    refine lv_goto (tgt := 4) hx hb dX7_lookAtAllSources_20 (by decide) ?_
    exact ih _ _ ls ⟨hW, hS, lv_sub hl [2, 1, 0] rfl⟩
