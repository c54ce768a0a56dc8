/-! what each call of the law's leaves: the class's invariant, the property's, and the rows that the law keeps beside -/
def jI (σ : QSt) : Prop := (∀ s0, s0 < 4 → jB σ s0) ∧ jA σ ∧ jL σ ∧ ∀ l, l < σ 0 0 → σ 64 l < 2
def jK (σ τ : QSt) : Prop := (∀ r l, l < σ 0 0 → (64 ≤ r ∧ r ≤ 67) ∨ (80 ≤ r ∧ r ≤ 82) → τ r l = σ r l) ∧ ∀ r a, a < σ 0 2 → (128 ≤ r ∧ r ≤ 130) ∨ (144 ≤ r ∧ r ≤ 147) → τ r a = σ r a
theorem jMi_r (σ : QSt) (c : Nat) : ∀ i r j, r < 112 ∨ 115 ≤ r → r ≠ 68 → r ≠ 97 → (qmI σ c i).1 r j = σ r j
  | 0, _, _, _, _, _ => rfl
  | i + 1, r, j, h, h1, h2 => by
    cases hq : qpt (qmI σ c i).1 (qmI σ c i).2 with
    | none => rw [qmI_none hq]; exact jMi_r σ c i r j h h1 h2
    | some q => rw [qmI_some hq]; exact (qfM_r h h1 h2).trans (jMi_r σ c i r j h h1 h2)
theorem jSa_r {T : QSt} {l0 r j : Nat} (h : r = 1 ∨ r = 48 ∨ (64 ≤ r ∧ r ≤ 69) ∨ (80 ≤ r ∧ r ≤ 130) ∨ (144 ≤ r ∧ r ≤ 147)) (i : Nat) : qfSa T l0 i r j = T r j :=
  zSa_r (by omega) (by omega) (by omega) (by omega) (by omega) (by omega) (by omega) (by omega) (by omega) (by omega) (by omega) i
theorem jTk_r {T : QSt} {r j : Nat} (h : r = 48 ∨ (64 ≤ r ∧ r ≤ 69) ∨ (80 ≤ r ∧ r ≤ 130) ∨ (144 ≤ r ∧ r ≤ 147)) (i : Nat) : qfTk T i r j = T r j :=
  (zTk_r (by omega) (by omega) (by omega) (by omega) (by omega) (by omega) (by omega) (by omega) (by omega) (by omega) (by omega) i).trans (zNow_r (by omega))
theorem jLo_r {T : QSt} {a r j : Nat} (h : r = 1 ∨ r = 48 ∨ (64 ≤ r ∧ r ≤ 69) ∨ (80 ≤ r ∧ r ≤ 130) ∨ (144 ≤ r ∧ r ≤ 147)) : qLook T a r j = T r j :=
  zLook_r (by omega) (by omega) (by omega) (by omega) (by omega) (by omega) (by omega) (by omega) (by omega) (by omega)
def jNew (σ τ : QSt) (s0 r0 x1 x2 x3 b0 : Nat) : Prop := zIv τ ∧ jI τ ∧ jK σ τ ∧ τ 0 0 = σ 0 0 + 1 ∧ τ 0 2 = σ 0 2 ∧ τ 1 0 = σ 1 0 ∧ (∀ s, τ 48 s = σ 48 s) ∧ τ 64 (σ 0 0) = s0 ∧ τ 65 (σ 0 0) = r0 ∧ τ 66 (σ 0 0) = b0 ∧ τ 67 (σ 0 0) = σ 1 0 ∧ τ 80 (σ 0 0) = x1 ∧ τ 81 (σ 0 0) = x2 ∧ τ 82 (σ 0 0) = x3
/-- a line that has been put down is shown to the alerts, and its source is looked at -/
theorem jEnd {σ T : QSt} {s0 r0 x1 x2 x3 b0 : Nat} (hj : jI σ) (hs0 : s0 < 2) (h00 : T 0 0 = σ 0 0 + 1) (hl : ∀ r l, l < σ 0 0 → 64 ≤ r → r ≤ 82 → r ≠ 68 → T r l = σ r l) (ha : ∀ r a, 128 ≤ r → r < 160 → T r a = σ r a) (h48 : ∀ s, T 48 s = σ 48 s) (h1 : T 1 0 = σ 1 0) (h02 : T 0 2 = σ 0 2) (n64 : T 64 (σ 0 0) = s0) (n65 : T 65 (σ 0 0) = r0) (n66 : T 66 (σ 0 0) = b0) (n67 : T 67 (σ 0 0) = σ 1 0) (n80 : T 80 (σ 0 0) = x1) (n81 : T 81 (σ 0 0) = x2) (n82 : T 82 (σ 0 0) = x3)
    (hA : jA T) (hL : jL T) (h0 : ∀ j, j ≠ 3 → qfSa T (σ 0 0) (T 0 2) 0 j = T 0 j) (hU : qWF (qfSa T (σ 0 0) (T 0 2))) (hv : zIv (qfLs (qfSa T (σ 0 0) (T 0 2)) s0 200).1) : jNew σ (qfLs (qfSa T (σ 0 0) (T 0 2)) s0 200).1 s0 r0 x1 x2 x3 b0 := by
  have hA2 := (hA.sa (σ 0 0) (T 0 2)).ls s0 200
  have g70 := fun l => jSa_70 T (σ 0 0) l (T 0 2)
  have er : ∀ r j, (r = 1 ∨ r = 48 ∨ (64 ≤ r ∧ r ≤ 69) ∨ (80 ≤ r ∧ r ≤ 130) ∨ (144 ≤ r ∧ r ≤ 147)) → qfSa T (σ 0 0) (T 0 2) r j = T r j := fun r j h => jSa_r h _
  generalize hUe : qfSa T (σ 0 0) (T 0 2) = U at hA2 g70 er h0 hU hv ⊢
  have et : ∀ r j, r ≠ 69 → (qfLs U s0 200).1 r j = U r j := fun r j h => jLs_r s0 200 U r j h
  have eT : ∀ r j, r ≠ 69 → (r = 1 ∨ r = 48 ∨ (64 ≤ r ∧ r ≤ 69) ∨ (80 ≤ r ∧ r ≤ 130) ∨ (144 ≤ r ∧ r ≤ 147)) → (qfLs U s0 200).1 r j = T r j := fun r j h h2 => (et r j h).trans (er r j h2)
  have e00 : U 0 0 = σ 0 0 + 1 := (h0 0 (by decide)).trans h00
  refine ⟨hv, ⟨?_, hA2, ?_, fun l hl9 => ?_⟩, ⟨fun r l hl9 hr => ?_, fun r a _ hr => ?_⟩, (et 0 0 (by decide)).trans e00, (et 0 2 (by decide)).trans ((h0 2 (by decide)).trans h02), (eT 1 0 (by decide) (by omega)).trans h1, fun s => (eT 48 s (by decide) (by omega)).trans (h48 s), (eT 64 _ (by decide) (by omega)).trans n64, (eT 65 _ (by decide) (by omega)).trans n65, (eT 66 _ (by decide) (by omega)).trans n66, (eT 67 _ (by decide) (by omega)).trans n67, (eT 80 _ (by decide) (by omega)).trans n80, (eT 81 _ (by decide) (by omega)).trans n81, (eT 82 _ (by decide) (by omega)).trans n82⟩
  · refine jLook1 hU s0 (fun s1 hs1 hne => (hj.1 s1 hs1).up ((er 48 s1 (by omega)).trans (h48 s1)) ?_ (fun l g1 g2 g3 => ?_))
    · unfold qkept
      rw [e00]
      show qsum (qkp U s1) (σ 0 0) + qkp U s1 (σ 0 0) ≤ _
      rw [show qkp U s1 (σ 0 0) = 0 from if_neg (fun z => hne (by rw [← z.1, er 64 _ (by omega), n64]))]
      refine Nat.le_of_eq (qsum_congr _ (fun l hl9 => ?_))
      unfold qkp
      rw [er 64 l (by omega), er 69 l (by omega), er 66 l (by omega), hl 64 l hl9 (by decide) (by decide) (by decide), hl 69 l hl9 (by decide) (by decide) (by decide), hl 66 l hl9 (by decide) (by decide) (by decide)]
    · rw [e00] at g1
      rw [er 64 l (by omega)] at g2
      rw [er 69 l (by omega)] at g3
      by_cases c : l = σ 0 0
      · rw [c, n64] at g2; exact absurd g2.symm hne
      · have hl9 : l < σ 0 0 := by omega
        rw [hl 64 l hl9 (by decide) (by decide) (by decide)] at g2
        rw [hl 69 l hl9 (by decide) (by decide) (by decide)] at g3
        refine ⟨hl9, g2, g3, ?_⟩
        have := g70 l
        rw [hl 70 l hl9 (by decide) (by decide) (by decide)] at this
        exact this
  · exact (hL.of ((et 0 1 (by decide)).trans (h0 1 (by decide))) (by rw [et 0 0 (by decide), e00, h00]; exact Nat.le_refl _) (fun p => eT 97 p (by decide) (by omega)) (fun l _ => eT 68 l (by decide) (by omega)))
  · rw [et 0 0 (by decide), e00] at hl9
    rw [eT 64 l (by decide) (by omega)]
    by_cases c : l = σ 0 0
    · rw [c, n64]; exact hs0
    · rw [hl 64 l (by omega) (by decide) (by decide) (by decide)]; exact hj.2.2.2 l (by omega)
  · rw [eT r l (by omega) (by omega)]; exact hl r l hl9 (by omega) (by omega) (by omega)
  · rw [eT r a (by omega) (by omega)]; exact ha r a (by omega) (by omega)
theorem jLineK {σ : QSt} (h : zIv σ) (hj : jI σ) {s0 r0 x1 x2 x3 b0 p0 : Nat} (hs0 : s0 < 2) (hr0 : r0 < 5) (hx1 : x1 < 100) (hx2 : x2 < 100) (hx3 : x3 < 100) (hb0 : 1 ≤ b0 ∧ b0 ≤ 99) (hn : σ 0 0 < 200) (hp : p0 < σ 0 1) (hm : σ 97 p0 = 0 ∧ s0 = σ 96 p0 ∧ qft (fun k => σ (112 + k) p0) (zx x1 x2 x3)) :
    jNew σ (qfLs (qfSa (qfLi σ s0 r0 x1 x2 x3 b0 p0) (σ 0 0) ((qfLi σ s0 r0 x1 x2 x3 b0 p0) 0 2)) s0 200).1 s0 r0 x1 x2 x3 b0 := by
  obtain ⟨z1, z2, z3, -, z5⟩ := zLineK h (zRel_can h) (by omega) hr0 hx1 hx2 hx3 hb0 hn hp hm
  have e : ∀ r j, ¬ (64 ≤ r ∧ r < 96 ∧ j = σ 0 0) → ¬ ((r = 0 ∨ r = 16 ∨ r = 32) ∧ j = 0) → qfLi σ s0 r0 x1 x2 x3 b0 p0 r j = σ r j := fun r j q1 q2 => qfLi_r q1 q2
  have ei : ∀ r v, ([(64, s0), (65, r0), (66, b0), (67, σ 1 0), (68, p0), (69, 107), (70, 0), (80, x1), (81, x2), (82, x3)]).find? (fun x => x.1 == r) = some (r, v) → 64 ≤ r → qfLi σ s0 r0 x1 x2 x3 b0 p0 r (σ 0 0) = v := fun r v q1 q2 => qad_in q1 q2
  refine jEnd hj hs0 qfLi_00 (fun r l hl _ _ _ => e r l (by omega) (by omega)) (fun r a _ _ => e r a (by omega) (by omega)) (fun s => e 48 s (by omega) (by omega)) (e 1 0 (by omega) (by omega)) (e 0 2 (by omega) (by omega)) (ei 64 _ rfl (by decide)) (ei 65 _ rfl (by decide)) (ei 66 _ rfl (by decide)) (ei 67 _ rfl (by decide)) (ei 80 _ rfl (by decide)) (ei 81 _ rfl (by decide)) (ei 82 _ rfl (by decide)) ?_ ?_ (qfSa_ok (fun i hi => (z1 i hi).2.1) _ (Nat.le_refl _)).1 z2 z5
  · exact hj.2.1.of (e 0 2 (by omega) (by omega)) (e 0 3 (by omega) (by omega)) (fun a => Nat.le_of_eq (e 133 a (by omega) (by omega))) (fun a => e 130 a (by omega) (by omega)) (fun f => e 161 f (by omega) (by omega)) (Nat.le_of_eq (e 1 0 (by omega) (by omega)).symm)
  · exact hj.2.2.1.of (e 0 1 (by omega) (by omega)) (by rw [qfLi_00]; exact Nat.le_succ _) (fun p => e 97 p (by omega) (by omega)) (fun l hl => e 68 l (by omega) (by omega))
theorem jLineL {σ : QSt} (h : zIv σ) (hj : jI σ) {s0 r0 x1 x2 x3 b0 : Nat} (hs0 : s0 < 2) (hr0 : r0 < 5) (hx1 : x1 < 100) (hx2 : x2 < 100) (hx3 : x3 < 100) (hb0 : 1 ≤ b0 ∧ b0 ≤ 99) (hn : σ 0 0 < 200) :
    let X := qfLe σ s0 x1 x2 x3
    let L := qfLi X s0 r0 x1 x2 x3 b0 (σ 0 1)
    let T := (qmI L (σ 0 1) (L 0 1)).1
    jNew σ (qfLs (qfSa T (X 0 0) (T 0 2)) s0 200).1 s0 r0 x1 x2 x3 b0 := by
  intro X L T
  obtain ⟨z1, z2, z3, z4, z5, z6, z7, -, z9⟩ := zLineL h (zRel_can h) (s0 := s0) (by omega) hr0 hx1 hx2 hx3 hb0 hn
  have eX : ∀ r j, ¬ (96 ≤ r ∧ r < 128 ∧ j = σ 0 1) → ¬ ((r = 0 ∨ r = 16 ∨ r = 32) ∧ j = 1) → X r j = σ r j := fun r j q1 q2 => qfLe_r q1 q2
  have hX00 : X 0 0 = σ 0 0 := eX 0 0 (by omega) (by omega)
  have eL : ∀ r j, ¬ (64 ≤ r ∧ r < 96 ∧ j = X 0 0) → ¬ ((r = 0 ∨ r = 16 ∨ r = 32) ∧ j = 0) → L r j = X r j := fun r j q1 q2 => qfLi_r q1 q2
  have eT : ∀ r j, r < 112 ∨ 115 ≤ r → r ≠ 68 → r ≠ 97 → T r j = L r j := fun r j q1 q2 q3 => jMi_r L (σ 0 1) (L 0 1) r j q1 q2 q3
  have ei : ∀ r v, ([(64, s0), (65, r0), (66, b0), (67, X 1 0), (68, σ 0 1), (69, 107), (70, 0), (80, x1), (81, x2), (82, x3)]).find? (fun x => x.1 == r) = some (r, v) → 64 ≤ r → L r (σ 0 0) = v := fun r v q1 q2 => by
    rw [← hX00]; exact qad_in q1 q2
  have e1 : X 1 0 = σ 1 0 := eX 1 0 (by omega) (by omega)
  have e : ∀ r j, r < 64 ∨ 128 ≤ r ∨ (r < 96 ∧ r ≠ 68 ∧ j ≠ σ 0 0) → ¬ ((r = 0 ∨ r = 16 ∨ r = 32) ∧ j < 2) → T r j = σ r j := fun r j q1 q2 =>
    (eT r j (by omega) (by omega) (by omega)).trans ((eL r j (by rw [hX00]; omega) (by omega)).trans (eX r j (by omega) (by omega)))
  have eN : ∀ r v, ([(64, s0), (65, r0), (66, b0), (67, X 1 0), (68, σ 0 1), (69, 107), (70, 0), (80, x1), (81, x2), (82, x3)]).find? (fun x => x.1 == r) = some (r, v) → 64 ≤ r → r < 96 → r ≠ 68 → T r (σ 0 0) = v := fun r v q1 q2 q3 q4 => (eT r _ (by omega) q4 (by omega)).trans (ei r v q1 q2)
  have hT00 : T 0 0 = σ 0 0 + 1 := by
    rw [eT 0 0 (by omega) (by decide) (by decide), show L 0 0 = X 0 0 + 1 from qfLi_00, hX00]
  have hA : jA T := hj.2.1.of (e 0 2 (by omega) (by omega)) (e 0 3 (by omega) (by omega)) (fun a => Nat.le_of_eq (e 133 a (by omega) (by omega))) (fun a => e 130 a (by omega) (by omega)) (fun f => e 161 f (by omega) (by omega)) (Nat.le_of_eq (e 1 0 (by omega) (by omega)).symm)
  have hLL : jL L := fun p hp hm => by
    rw [eL 0 1 (by omega) (by omega), show X 0 1 = σ 0 1 + 1 from qfLe_01] at hp
    rw [eL 97 p (by omega) (by omega)] at hm
    have l00 : L 0 0 = σ 0 0 + 1 := by rw [show L 0 0 = X 0 0 + 1 from qfLi_00, hX00]
    by_cases c : p = σ 0 1
    · exact ⟨σ 0 0, by rw [l00]; exact Nat.lt_succ_self _, (ei 68 _ rfl (by decide)).trans c.symm⟩
    · rw [eX 97 p (by omega) (by omega)] at hm
      obtain ⟨l, hl, g⟩ := hj.2.2.1 p (by omega) hm
      refine ⟨l, by rw [l00]; omega, ?_⟩
      rw [eL 68 l (by rw [hX00]; omega) (by omega), eX 68 l (by omega) (by omega)]
      exact g
  have hLT : jL T := hLL.mi (σ 0 1) (L 0 1)
  have h0 := (qfSa_ok (fun i hi => (z1 i hi).2.1) _ (Nat.le_refl _)).1
  rw [show qfSa T (X 0 0) (T 0 2) = qfSa T (σ 0 0) (T 0 2) by rw [hX00]]
  have h0' : ∀ j, j ≠ 3 → qfSa T (σ 0 0) (T 0 2) 0 j = T 0 j := by rw [← hX00]; exact h0
  have z2' : qWF (qfSa T (σ 0 0) (T 0 2)) := by rw [← hX00]; exact z2
  have z9' : zIv (qfLs (qfSa T (σ 0 0) (T 0 2)) s0 200).1 := by rw [← hX00]; exact z9
  exact jEnd hj hs0 hT00 (fun r l hl q1 q2 q3 => e r l (by omega) (by omega)) (fun r a q1 q2 => e r a (by omega) (by omega)) (fun s => e 48 s (by omega) (by omega)) (e 1 0 (by omega) (by omega)) (e 0 2 (by omega) (by omega)) (eN 64 _ rfl (by decide) (by decide) (by decide)) (eN 65 _ rfl (by decide) (by decide) (by decide)) (eN 66 _ rfl (by decide) (by decide) (by decide)) ((eN 67 _ rfl (by decide) (by decide) (by decide)).trans e1) (eN 80 _ rfl (by decide) (by decide) (by decide)) (eN 81 _ rfl (by decide) (by decide) (by decide)) (eN 82 _ rfl (by decide) (by decide) (by decide)) hA hLT h0' z2' z9'
/-- what the other calls leave: no line comes, no alert -/
def jSame (σ τ : QSt) : Prop := zIv τ ∧ jI τ ∧ jK σ τ ∧ τ 0 0 = σ 0 0 ∧ τ 0 2 = σ 0 2
theorem jK.of {σ τ : QSt} (h : ∀ r j, (64 ≤ r ∧ r ≤ 67) ∨ (80 ≤ r ∧ r ≤ 82) ∨ (128 ≤ r ∧ r ≤ 130) ∨ (144 ≤ r ∧ r ≤ 147) → τ r j = σ r j) : jK σ τ := ⟨fun r l _ hr => h r l (by omega), fun r a _ hr => h r a (by omega)⟩
theorem jBud {σ : QSt} (h : zIv σ) (hj : jI σ) {s0 b0 : Nat} (hs0 : s0 < 4) (hb0 : b0 ≤ 9999) : jSame σ (qfLs (qup σ 48 s0 b0) s0 200).1 ∧ (qfLs (qup σ 48 s0 b0) s0 200).1 1 0 = σ 1 0 ∧ ∀ s, (qfLs (qup σ 48 s0 b0) s0 200).1 48 s = if s = s0 then b0 else σ 48 s := by
  have hv := (zBud h (zRel_can h) hs0 hb0).2.2
  have hF2 : qWF (qup σ 48 s0 b0) := h.1.wf.bud s0 b0 (by omega)
  have e : ∀ r j, r ≠ 48 → qup σ 48 s0 b0 r j = σ r j := fun r j hr => qup_k hr
  have et : ∀ r j, r ≠ 69 → r ≠ 48 → (qfLs (qup σ 48 s0 b0) s0 200).1 r j = σ r j := fun r j h1 h2 => (jLs_r s0 200 _ r j h1).trans (e r j h2)
  have hA : jA (qup σ 48 s0 b0) := hj.2.1.of (e 0 2 (by decide)) (e 0 3 (by decide)) (fun a => Nat.le_of_eq (e 133 a (by decide))) (fun a => e 130 a (by decide)) (fun f => e 161 f (by decide)) (Nat.le_of_eq (e 1 0 (by decide)).symm)
  refine ⟨⟨hv, ⟨?_, hA.ls s0 200, ?_, fun l hl => ?_⟩, jK.of (fun r j hr => et r j (by omega) (by omega)), et 0 0 (by decide) (by decide), et 0 2 (by decide) (by decide)⟩, et 1 0 (by decide) (by decide), fun s => ?_⟩
  · refine jLook1 hF2 s0 (fun s1 hs1 hne => (hj.1 s1 hs1).up (qup_j hne) ?_ (fun l g1 g2 g3 => ⟨g1, g2, g3, Nat.le_refl _⟩))
    exact Nat.le_of_eq (qsum_congr _ (fun l _ => rfl))
  · exact hj.2.2.1.of (et 0 1 (by decide) (by decide)) (Nat.le_of_eq (et 0 0 (by decide) (by decide)).symm) (fun p => et 97 p (by decide) (by decide)) (fun l _ => et 68 l (by decide) (by decide))
  · rw [et 0 0 (by decide) (by decide)] at hl; rw [et 64 l (by decide) (by decide)]; exact hj.2.2.2 l hl
  · rw [jLs_r s0 200 _ 48 s (by decide)]
    by_cases c : s = s0
    · rw [if_pos c, c, qup_s]
    · rw [if_neg c, qup_j c]
theorem jArc {σ : QSt} (h : zIv σ) (hj : jI σ) {l0 : Nat} (hl0 : l0 < σ 0 0) (h0 : σ 69 l0 = 107) : jSame σ (qup σ 69 l0 97) := by
  have hv := (zArc h (zRel_can h) hl0 h0).1
  have e : ∀ r j, r ≠ 69 → qup σ 69 l0 97 r j = σ r j := fun r j hr => qup_k hr
  have ek : ∀ l, qup σ 69 l0 97 69 l = 107 → σ 69 l = 107 := fun l z => by
    by_cases c : l = l0
    · rw [c, qup_s] at z; exact absurd z (by decide)
    · rw [qup_j c] at z; exact z
  refine ⟨hv, ⟨fun s1 hs1 => (hj.1 s1 hs1).up (e 48 s1 (by decide)) ?_ (fun l g1 g2 g3 => ?_), ?_, ?_, fun l hl => ?_⟩, jK.of (fun r j hr => e r j (by omega)), e 0 0 (by decide), e 0 2 (by decide)⟩
  · unfold qkept
    rw [e 0 0 (by decide)]
    refine qsum_le_of _ (fun l _ => ?_)
    unfold qkp
    rw [e 64 l (by decide), e 66 l (by decide)]
    by_cases c : σ 64 l = s1 ∧ qup σ 69 l0 97 69 l = 107
    · rw [if_pos c, if_pos ⟨c.1, ek l c.2⟩]; exact Nat.le_refl _
    · rw [if_neg c]; exact Nat.zero_le _
  · rw [e 0 0 (by decide)] at g1
    rw [e 64 l (by decide)] at g2
    rw [e 70 l (by decide)]
    exact ⟨g1, g2, ek l g3, Nat.le_refl _⟩
  · exact hj.2.1.of (e 0 2 (by decide)) (e 0 3 (by decide)) (fun a => Nat.le_of_eq (e 133 a (by decide))) (fun a => e 130 a (by decide)) (fun f => e 161 f (by decide)) (Nat.le_of_eq (e 1 0 (by decide)).symm)
  · exact hj.2.2.1.of (e 0 1 (by decide)) (Nat.le_of_eq (e 0 0 (by decide)).symm) (fun p => e 97 p (by decide)) (fun l _ => e 68 l (by decide))
  · rw [e 0 0 (by decide)] at hl; rw [e 64 l (by decide)]; exact hj.2.2.2 l hl
theorem jRls {σ : QSt} (h : zIv σ) (hj : jI σ) {f : Nat} (hf : f < σ 0 3) (h0 : σ 162 f = 0) (h1 : σ 131 (σ 160 f) = 113 ∨ σ 134 (σ 160 f) ≠ f + 1) : (∀ l0, l0 < σ 0 0 → σ (1000 + f) l0 = 1 → 1 ≤ σ 70 l0) ∧ qWF (qfGu (qup σ 162 f 1) f) ∧ jSame σ (qfAs (qfGu (qup σ 162 f 1) f) 4).1 ∧ (qfAs (qfGu (qup σ 162 f 1) f) 4).1 1 0 = σ 1 0 ∧ (∀ s, (qfAs (qfGu (qup σ 162 f 1) f) 4).1 48 s = σ 48 s) ∧ (qfAs (qfGu (qup σ 162 f 1) f) 4).1 0 3 = σ 0 3 ∧ (qfAs (qfGu (qup σ 162 f 1) f) 4).1 162 f = 1 ∧ (qfAs (qfGu (qup σ 162 f 1) f) 4).1 163 f = 0 := by
  obtain ⟨z1, z2, z3⟩ := zRls h (zRel_can h) hf h0 h1
  have hX : qWF (qfGu (qup σ 162 f 1) f) := z2.1.wf
  obtain ⟨N, -, -, n3, -⟩ := zDropA z2.1 z3
  have hv : zIv (qfAs (qfGu (qup σ 162 f 1) f) 4).1 := z2.drop (qfAs_ok hX 4).2.1 n3
  have e : ∀ r j, r ≠ 70 → r ≠ 163 → r ≠ 1000 + f → r ≠ 162 → qfGu (qup σ 162 f 1) f r j = σ r j := fun r j q1 q2 q3 q4 => (zGu_r q1 q2 q3).trans (qup_k q4)
  have v162 : qfGu (qup σ 162 f 1) f 162 f = 1 := (zGu_r (by decide) (by decide) (by omega)).trans (qup_s _ _ _ _)
  have v163 : qfGu (qup σ 162 f 1) f 163 f = 0 := by unfold qfGu qfCl; exact qup_s _ _ _ _
  have hA : jA (qfGu (qup σ 162 f 1) f) := hj.2.1.of (e 0 2 (by decide) (by decide) (by omega) (by decide)) (e 0 3 (by decide) (by decide) (by omega) (by decide)) (fun a => Nat.le_of_eq (e 133 a (by decide) (by decide) (by omega) (by decide))) (fun a => e 130 a (by decide) (by decide) (by omega) (by decide)) (fun g => e 161 g (by decide) (by decide) (by omega) (by decide)) (Nat.le_of_eq (e 1 0 (by decide) (by decide) (by omega) (by decide)).symm)
  obtain ⟨k1, k2, k3⟩ := jAs hX 4 (Nat.le_refl _)
  have et : ∀ r j, r ≠ 69 → r ≠ 70 → r ≠ 163 → r ≠ 1000 + f → r ≠ 162 → (qfAs (qfGu (qup σ 162 f 1) f) 4).1 r j = σ r j := fun r j q0 q1 q2 q3 q4 => (k3 r j q0).trans (e r j q1 q2 q3 q4)
  refine ⟨z1, hX, ⟨hv, ⟨k1, hA.as 4, ?_, fun l hl => ?_⟩, jK.of (fun r j hr => et r j (by omega) (by omega) (by omega) (by omega) (by omega)), et 0 0 (by decide) (by decide) (by decide) (by omega) (by decide), et 0 2 (by decide) (by decide) (by decide) (by omega) (by decide)⟩, et 1 0 (by decide) (by decide) (by decide) (by omega) (by decide), fun s => et 48 s (by decide) (by decide) (by decide) (by omega) (by decide), et 0 3 (by decide) (by decide) (by decide) (by omega) (by decide), (k3 162 f (by decide)).trans v162, (k3 163 f (by decide)).trans v163⟩
  · exact hj.2.2.1.of (et 0 1 (by decide) (by decide) (by decide) (by omega) (by decide)) (Nat.le_of_eq (et 0 0 (by decide) (by decide) (by decide) (by omega) (by decide)).symm) (fun p => et 97 p (by decide) (by decide) (by decide) (by omega) (by decide)) (fun l _ => et 68 l (by decide) (by decide) (by decide) (by omega) (by decide))
  · rw [et 0 0 (by decide) (by decide) (by decide) (by omega) (by decide)] at hl
    rw [et 64 l (by decide) (by decide) (by decide) (by omega) (by decide)]
    exact hj.2.2.2 l hl
/-- a tick -/
theorem jTick {σ : QSt} (h : zIv σ) (hj : jI σ) (ht : σ 1 0 < 5000) (hn : σ 0 3 + σ 0 2 ≤ 1300 ∧ σ 0 3 < 1300) : qTick σ ∧ jSame σ (qfP1 σ) ∧ qfP1 σ 1 0 = σ 1 0 + 1 ∧ (∀ s, qfP1 σ 48 s = σ 48 s) ∧ (∀ j, qfP1 σ 0 j = σ 0 j) ∧ qfP1 σ 32 3 = σ 32 3 ∧ qds (qfP1 σ) = qds σ + (qfAs (qfTk σ (σ 0 2)) 4).2 := by
  obtain ⟨z1, N, -, -, -, z5, z6, z7, z8⟩ := zTick h (zRel_can h) ht hn
  have hX : qWF (qfTk σ (σ 0 2)) := z1.2.2.2
  obtain ⟨k1, k2, k3⟩ := jAs hX 4 (Nat.le_refl _)
  have hA := ((hj.2.1.tk (σ 0 2)).as 4).ar
  have e : ∀ r j, (r = 48 ∨ (64 ≤ r ∧ r ≤ 69) ∨ (80 ≤ r ∧ r ≤ 130) ∨ (144 ≤ r ∧ r ≤ 147)) → qfTk σ (σ 0 2) r j = σ r j := fun r j hr => jTk_r hr _
  have e0 : ∀ j, qfTk σ (σ 0 2) 0 j = σ 0 j := fun j => (qfP1_lo z1 (by decide)).symm.trans (z7 j)
  have et : ∀ r j, r ≠ 69 → (r = 48 ∨ (64 ≤ r ∧ r ≤ 69) ∨ (80 ≤ r ∧ r ≤ 130) ∨ (144 ≤ r ∧ r ≤ 147)) → qfP1 σ r j = σ r j := fun r j q1 q2 => (qfAr_r (by omega) (by omega)).trans ((k3 r j q1).trans (e r j q2))
  have ea : ∀ r j, r ≠ 193 → r ≠ 194 → qfP1 σ r j = (qfAs (qfTk σ (σ 0 2)) 4).1 r j := fun r j q1 q2 => qfAr_r q1 q2
  refine ⟨z1, ⟨z5, ⟨fun s1 hs1 => (k1 s1 hs1).up (ea 48 s1 (by decide) (by decide)) ?_ (fun l g1 g2 g3 => ?_), hA, ?_, fun l hl => ?_⟩, jK.of (fun r j hr => et r j (by omega) (by omega)), z7 0, z7 2⟩, z6, fun s => et 48 s (by decide) (by omega), z7, z8, ?_⟩
  · unfold qkept
    rw [ea 0 0 (by decide) (by decide)]
    refine Nat.le_of_eq (qsum_congr _ (fun l _ => ?_))
    unfold qkp
    rw [ea 64 l (by decide) (by decide), ea 69 l (by decide) (by decide), ea 66 l (by decide) (by decide)]
  · rw [ea 0 0 (by decide) (by decide)] at g1
    rw [ea 64 l (by decide) (by decide)] at g2
    rw [ea 69 l (by decide) (by decide)] at g3
    rw [ea 70 l (by decide) (by decide)]
    exact ⟨g1, g2, g3, Nat.le_refl _⟩
  · exact hj.2.2.1.of (z7 1) (Nat.le_of_eq (z7 0).symm) (fun p => et 97 p (by decide) (by omega)) (fun l _ => et 68 l (by decide) (by omega))
  · rw [z7 0] at hl; rw [et 64 l (by decide) (by omega)]; exact hj.2.2.2 l hl
  · have q1 : qds (qfP1 σ) = qds (qfAs (qfTk σ (σ 0 2)) 4).1 := by
      unfold qds qdr
      simp only [ea 0 0 (by decide) (by decide), fun l => ea 64 l (by decide) (by decide), fun l => ea 69 l (by decide) (by decide)]
    have q2 : qds (qfTk σ (σ 0 2)) = qds σ := by
      unfold qds qdr
      simp only [e0 0, fun l => e 64 l (by omega), fun l => e 69 l (by omega)]
    rw [q1, k2, q2]
theorem jPass {σ : QSt} (h : zIv σ) (hj : jI σ) (hn : σ 0 3 + σ 0 2 ≤ 1300 ∧ σ 0 3 < 1300) : ∀ n, σ 1 0 + n ≤ 5000 → (∀ i, i < n → qTick (qfPs σ i).1) ∧ jSame σ (qfPs σ n).1 ∧ (qfPs σ n).1 1 0 = σ 1 0 + n ∧ (∀ s, (qfPs σ n).1 48 s = σ 48 s) ∧ (∀ j, (qfPs σ n).1 0 j = σ 0 j) ∧ (qfPs σ n).1 32 3 = σ 32 3 ∧ qds (qfPs σ n).1 = qds σ + (qfPs σ n).2
  | 0, _ => ⟨fun i hi => absurd hi (Nat.not_lt_zero _), ⟨h, hj, jK.of (fun _ _ _ => rfl), rfl, rfl⟩, rfl, fun _ => rfl, fun _ => rfl, rfl, rfl⟩
  | n + 1, ht => by
    obtain ⟨h1, ⟨h2, h3, h4, h5, h6⟩, h7, h8, h9, h10, h11⟩ := jPass h hj hn n (by omega)
    obtain ⟨g1, ⟨g2, g3, g4, g5, g6⟩, g7, g8, g9, g10, g11⟩ := jTick h2 h3 (by omega) (by rw [h9, h9]; exact hn)
    refine ⟨fun i hi => ?_, ⟨g2, g3, ⟨fun r l hl hr => ?_, fun r a ha hr => ?_⟩, g5.trans h5, g6.trans h6⟩, ?_, fun s => (g8 s).trans (h8 s), fun j => (g9 j).trans (h9 j), g10.trans h10, ?_⟩
    · rcases Nat.lt_succ_iff_lt_or_eq.mp hi with z | z
      · exact h1 i z
      · rw [z]; exact g1
    · exact (g4.1 r l (by rw [h5]; exact hl) hr).trans (h4.1 r l hl hr)
    · exact (g4.2 r a (by rw [h6]; exact ha) hr).trans (h4.2 r a ha hr)
    · show qfP1 (qfPs σ n).1 1 0 = _
      rw [g7, h7]; omega
    · show qds (qfP1 (qfPs σ n).1) = qds σ + ((qfPs σ n).2 + _)
      rw [g11, h11]; omega
/-- an alert is added -/
theorem jAdd {σ : QSt} (h : zIv σ) (hj : jI σ) {s0 r0 P w0 g0 n0 h0 : Nat} (hs0 : s0 < 4) (hr0 : r0 < 5) (hP : P ≤ 3) (hw0 : w0 < 100) (hg0 : 1 ≤ g0 ∧ g0 ≤ 9) (hn0 : 1 ≤ n0 ∧ n0 ≤ 50) (hh0 : h0 ≤ 20) (hn2 : σ 0 2 < 6) (hn3 : σ 0 3 < 1300) :
    let τ := qfAa σ s0 r0 P w0 g0 n0 h0
    zIv τ ∧ jI τ ∧ jK σ τ ∧ τ 0 0 = σ 0 0 ∧ τ 0 2 = σ 0 2 + 1 ∧ τ 1 0 = σ 1 0 ∧ (∀ s, τ 48 s = σ 48 s) ∧ τ 144 (σ 0 2) = s0 ∧ τ 145 (σ 0 2) = r0 ∧ τ 146 (σ 0 2) = P ∧ τ 147 (σ 0 2) = w0 ∧ τ 128 (σ 0 2) = g0 ∧ τ 129 (σ 0 2) = n0 ∧ τ 130 (σ 0 2) = h0 := by
  intro τ
  have hv : zIv τ := (zAdd h (zRel_can h) hs0 hr0 hP hw0 hg0 hn0 hh0 hn2 hn3).1
  have e : ∀ r j, ¬ (128 ≤ r ∧ r < 160 ∧ j = σ 0 2) → ¬ ((r = 0 ∨ r = 16 ∨ r = 32) ∧ j = 2) → qfAl σ s0 r0 P w0 g0 n0 h0 r j = σ r j := fun r j q1 q2 => qfAl_r q1 q2
  have ei : ∀ r v, ([(128, g0), (129, n0), (130, h0), (131, 113), (132, 0), (133, 0), (134, 0), (144, s0), (145, r0), (146, P), (147, w0)]).find? (fun x => x.1 == r) = some (r, v) → 64 ≤ r → qfAl σ s0 r0 P w0 g0 n0 h0 r (σ 0 2) = v := fun r v q1 q2 => qad_in q1 q2
  have ec : ∀ r j, r ≠ 132 → r ≠ 70 → qfAc σ s0 r0 P w0 g0 n0 h0 r j = qfAl σ s0 r0 P w0 g0 n0 h0 r j := fun r j q1 q2 => by
    have key : ∀ i, qfCa (qfAl σ s0 r0 P w0 g0 n0 h0) (σ 0 2) i r j = qfAl σ s0 r0 P w0 g0 n0 h0 r j := by
      intro i
      induction i with
      | zero => rfl
      | succ i ih => exact (qfCd_r q1 q2).trans ih
    exact key (σ 0 0)
  have hA0 : jA (qfAl σ s0 r0 P w0 g0 n0 h0) := by
    refine ⟨fun a ha => ?_, fun f hf => ?_⟩
    · rw [qfAl_02] at ha
      by_cases c : a = σ 0 2
      · rw [c, ei 133 0 rfl (by decide)]; exact Nat.zero_le _
      · rw [e 133 a (by omega) (by omega), e 130 a (by omega) (by omega)]; exact hj.2.1.1 a (by omega)
    · rw [e 0 3 (by omega) (by omega)] at hf
      rw [e 161 f (by omega) (by omega), e 1 0 (by omega) (by omega)]; exact hj.2.1.2 f hf
  have hA1 : jA (qfAc σ s0 r0 P w0 g0 n0 h0) := hA0.ca (σ 0 2) (σ 0 0)
  have g70 : ∀ l, σ 70 l ≤ qfAc σ s0 r0 P w0 g0 n0 h0 70 l := fun l => by
    have := jCa_70 (qfAl σ s0 r0 P w0 g0 n0 h0) (σ 0 2) l (σ 0 0)
    rw [e 70 l (by omega) (by omega)] at this
    exact this
  have v131 : qfAc σ s0 r0 P w0 g0 n0 h0 131 (σ 0 2) = 113 := (ec 131 _ (by decide) (by decide)).trans (ei 131 113 rfl (by decide))
  have v128 : qfAc σ s0 r0 P w0 g0 n0 h0 128 (σ 0 2) = g0 := (ec 128 _ (by decide) (by decide)).trans (ei 128 g0 rfl (by decide))
  have hLk : τ = qLook (qfAc σ s0 r0 P w0 g0 n0 h0) (σ 0 2) := by
    show qfAa σ s0 r0 P w0 g0 n0 h0 = _
    unfold qfAa
    by_cases c : g0 ≤ qfAc σ s0 r0 P w0 g0 n0 h0 132 (σ 0 2)
    · rw [if_pos c, qLook_t ⟨by rw [v128]; exact c, Or.inl v131⟩]
    · rw [if_neg c, qLook_f (fun z => c (Nat.le_trans (Nat.le_of_eq v128.symm) z.1))]
      unfold qfLk
      rw [if_neg (by rw [v128]; exact c), if_neg (by rw [v131]; decide)]
  have hA : jA τ := by rw [hLk]; exact hA1.look _
  have t70 : ∀ l, σ 70 l ≤ τ 70 l := fun l => by rw [hLk]; exact Nat.le_trans (g70 l) (jLook_70 _ _ _)
  have et : ∀ r j, (r = 1 ∨ r = 48 ∨ (64 ≤ r ∧ r ≤ 69) ∨ (80 ≤ r ∧ r ≤ 130) ∨ (144 ≤ r ∧ r ≤ 147)) → τ r j = qfAl σ s0 r0 P w0 g0 n0 h0 r j := fun r j hr => by
    rw [hLk]; exact (jLo_r hr).trans (ec r j (by omega) (by omega))
  have es : ∀ r j, (r = 1 ∨ r = 48 ∨ (64 ≤ r ∧ r ≤ 69) ∨ (80 ≤ r ∧ r < 128)) → τ r j = σ r j := fun r j hr => (et r j (by omega)).trans (e r j (by omega) (by omega))
  have t0 : ∀ j, j ≠ 3 → τ 0 j = qfAl σ s0 r0 P w0 g0 n0 h0 0 j := fun j hj9 => by
    rw [hLk]; exact (qLook_0 hj9).trans (ec 0 j (by decide) (by decide))
  have t00 : τ 0 0 = σ 0 0 := (t0 0 (by decide)).trans (e 0 0 (by omega) (by omega))
  have t01 : τ 0 1 = σ 0 1 := (t0 1 (by decide)).trans (e 0 1 (by omega) (by omega))
  refine ⟨hv, ⟨fun s1 hs1 => (hj.1 s1 hs1).up (es 48 s1 (by omega)) ?_ (fun l g1 g2 g3 => ?_), hA, ?_, fun l hl => ?_⟩, ⟨fun r l _ hr => es r l (by omega), fun r a ha hr => (et r a (by omega)).trans (e r a (by omega) (by omega))⟩, t00, (t0 2 (by decide)).trans qfAl_02, es 1 0 (by omega), fun s => es 48 s (by omega), (et 144 _ (by omega)).trans (ei 144 _ rfl (by decide)), (et 145 _ (by omega)).trans (ei 145 _ rfl (by decide)), (et 146 _ (by omega)).trans (ei 146 _ rfl (by decide)), (et 147 _ (by omega)).trans (ei 147 _ rfl (by decide)), (et 128 _ (by omega)).trans (ei 128 _ rfl (by decide)), (et 129 _ (by omega)).trans (ei 129 _ rfl (by decide)), (et 130 _ (by omega)).trans (ei 130 _ rfl (by decide))⟩
  · unfold qkept
    rw [t00]
    refine Nat.le_of_eq (qsum_congr _ (fun l _ => ?_))
    unfold qkp
    rw [es 64 l (by omega), es 69 l (by omega), es 66 l (by omega)]
  · rw [t00] at g1
    rw [es 64 l (by omega)] at g2
    rw [es 69 l (by omega)] at g3
    exact ⟨g1, g2, g3, t70 l⟩
  · exact hj.2.2.1.of t01 (Nat.le_of_eq t00.symm) (fun p => es 97 p (by omega)) (fun l _ => es 68 l (by omega))
  · rw [t00] at hl; rw [es 64 l (by omega)]; exact hj.2.2.2 l hl
theorem jI_0 : jI qs0 := by
  have h0 : ∀ j, qs0 0 j = 0 := fun j => if_neg (by omega)
  refine ⟨fun s0 _ => Or.inr (fun l hl => ?_), ⟨fun a ha => ?_, fun f hf => ?_⟩, fun p hp => ?_, fun l hl => ?_⟩
  · rw [h0] at hl; exact absurd hl (Nat.not_lt_zero _)
  · rw [h0] at ha; exact absurd ha (Nat.not_lt_zero _)
  · rw [h0] at hf; exact absurd hf (Nat.not_lt_zero _)
  · rw [h0] at hp; exact absurd hp (Nat.not_lt_zero _)
  · rw [h0] at hl; exact absurd hl (Nat.not_lt_zero _)
