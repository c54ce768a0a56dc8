/-! ticks pass, in both -/
theorem zTick {σ ρ : QSt} (h : zIv σ) (hR : zRel σ ρ) (ht : σ 1 0 < 5000) (hn : σ 0 3 + σ 0 2 ≤ 1300 ∧ σ 0 3 < 1300) : qTick σ ∧ ∃ N, rTick ρ N ∧ (qfAs (qfTk σ (σ 0 2)) 4).2 = N 0 + N 1 + N 2 + N 3 ∧ zRel (qfP1 σ) (rP1 ρ N) ∧ zIv (qfP1 σ) ∧ qfP1 σ 1 0 = σ 1 0 + 1 ∧ (∀ j, qfP1 σ 0 j = σ 0 j) ∧ qfP1 σ 32 3 = σ 32 3 := by
  obtain ⟨hw, hk, hf, hrq⟩ := id h
  obtain ⟨g1, g2, g3, g4, g5, g6⟩ := zTurns hw hR ht hk hn.2 (σ 0 2) (Nat.le_refl _)
  have hP := fun a (ha : a < σ 0 2) => hw.wf.plc ha
  generalize hX : qfTk σ (σ 0 2) = X at g1 g2 g3 g4 g5
  have eX : ∀ r j, r < 1000 → r ≠ 70 → r ≠ 163 → r ≠ 131 → r ≠ 133 → r ≠ 0 → r ≠ 16 → r ≠ 32 → r ≠ 134 → (r < 160 ∨ 192 ≤ r) → r ≠ 132 → X r j = qfNow σ r j := fun r j a1 a2 a3 a4 a5 a6 a7 a8 a9 a10 a11 => by rw [← hX]; exact zTk_r a1 a2 a3 a4 a5 a6 a7 a8 a9 a10 a11 _
  have hw2 : zIw X (zκ X) := g1.cong (fun a l => qB_le) (fun a l ha _ => by
    rw [g4] at ha
    unfold zκt
    rw [if_pos ha]
    refine qB_c (qcn_of (by rw [zNow_r (by decide)]; exact hP a ha) ?_ (fun r hr _ => ?_) ?_ (fun r hr => ?_))
    · exact eX 1 0 (by decide) (by decide) (by decide) (by decide) (by decide) (by decide) (by decide) (by decide) (by decide) (by decide) (by decide)
    · rcases hr with q | q <;> exact eX r l (by omega) (by omega) (by omega) (by omega) (by omega) (by omega) (by omega) (by omega) (by omega) (by omega) (by omega)
    · rw [eX 69 l (by decide) (by decide) (by decide) (by decide) (by decide) (by decide) (by decide) (by decide) (by decide) (by decide) (by decide)]
    · rcases hr with q | q <;> exact eX r a (by omega) (by omega) (by omega) (by omega) (by omega) (by omega) (by omega) (by omega) (by omega) (by omega) (by omega))
  have hqt : qTick σ := ⟨hw.wf, by omega, g6, by rw [hX]; exact g1.wf⟩
  obtain ⟨N, n1, n2, n3, n4⟩ := zDropA hw2 g2
  have hρ2 : ρ 0 2 = σ 0 2 := hR.n (by decide)
  have hρ3 : ρ 0 3 = σ 0 3 := hR.n (by decide)
  have eA : ∀ r j, r ≠ 69 → (qfAs X 4).1 r j = X r j := (qfAs_ok g1.wf 4).2.1
  have e1 : (qfAs X 4).1 1 0 = σ 1 0 + 1 := (eA 1 0 (by decide)).trans ((eX 1 0 (by decide) (by decide) (by decide) (by decide) (by decide) (by decide) (by decide) (by decide) (by decide) (by decide) (by decide)).trans (qup_s _ _ _ _))
  have e0 : ∀ j, (qfAs X 4).1 0 j = σ 0 j := fun j => (eA 0 j (by decide)).trans (g4 j)
  have e193 : ∀ x, (qfAs X 4).1 193 x = σ 193 x := fun x => (eA 193 x (by decide)).trans ((eX 193 x (by decide) (by decide) (by decide) (by decide) (by decide) (by decide) (by decide) (by decide) (by decide) (by decide) (by decide)).trans (zNow_r (by decide)))
  have e192 : ∀ x, (qfAs X 4).1 192 x = σ 192 x := fun x => (eA 192 x (by decide)).trans ((eX 192 x (by decide) (by decide) (by decide) (by decide) (by decide) (by decide) (by decide) (by decide) (by decide) (by decide) (by decide)).trans (zNow_r (by decide)))
  obtain ⟨a1, a2, a3⟩ := zAns n3 n2 (fun x hx => by
    rw [e0] at hx
    rw [e193, e192, e1]
    have := hrq x hx
    exact ⟨fun z => this.1 z, fun z => Nat.lt_succ_of_le (this.2 z)⟩)
  have hP1 : qfP1 σ = qfAr (qfAs X 4).1 := by unfold qfP1; rw [hX]
  have eP : ∀ r j, r ≠ 193 → r ≠ 194 → r ≠ 69 → qfP1 σ r j = X r j := fun r j q1 q2 q3 => by
    rw [hP1]
    exact (qfArS_r _ _ _ q1 q2).trans (eA r j q3)
  have hrP : rP1 ρ N = rAn (rDa (rTk ρ (σ 0 2)) N 4) (rDa (rTk ρ (σ 0 2)) N 4 0 4) := by
    unfold rP1
    rw [hρ2]
    congr 1
    rw [n2.n (by decide), e0]
    exact hR.n (by decide)
  refine ⟨hqt, N, ⟨by omega, ?_⟩, n4, ?_, ?_, ?_, ?_, ?_⟩
  · rw [hρ2]; exact n1
  · rw [hP1, hrP]; exact a1
  · rw [hP1]
    refine ⟨a2, fun a ha => ?_, ?_, fun x hx => ?_⟩
    · have q := eP 0 2 (by decide) (by decide) (by decide)
      rw [hP1] at q
      rw [q, g4] at ha
      have := g3 a ha
      unfold zLk at this ⊢
      rw [← hP1, eP 131 a (by decide) (by decide) (by decide), eP 128 a (by decide) (by decide) (by decide), eP 132 a (by decide) (by decide) (by decide)]
      exact this
    · rw [← hP1, eP 0 3 (by decide) (by decide) (by decide), eP 0 0 (by decide) (by decide) (by decide), eP 0 2 (by decide) (by decide) (by decide), g4, g4, g4]
      exact hf
    · rw [← hP1, eP 0 4 (by decide) (by decide) (by decide), g4] at hx
      have := a3 x (by rw [e0]; exact hx)
      rw [e1, e192] at this
      rw [← hP1, eP 1 0 (by decide) (by decide) (by decide), eP 192 x (by decide) (by decide) (by decide), hP1, ← eA 1 0 (by decide), ← eA 192 x (by decide), e1, e192]
      exact this
  · rw [eP 1 0 (by decide) (by decide) (by decide), ← eA 1 0 (by decide)]; exact e1
  · intro j; rw [eP 0 j (by decide) (by decide) (by decide)]; exact g4 j
  · rw [eP 32 3 (by decide) (by decide) (by decide)]; exact g5
def zup (N : Nat → Nat → Nat) (n : Nat) (M : Nat → Nat) : Nat → Nat → Nat := fun k => if k = n then M else N k
theorem zup_ne {N : Nat → Nat → Nat} {n k : Nat} {M : Nat → Nat} (h : k ≠ n) : zup N n M k = N k := if_neg h
theorem zup_eq {N : Nat → Nat → Nat} {n : Nat} {M : Nat → Nat} : zup N n M n = M := if_pos rfl
theorem rPs_congr {ρ : QSt} {N N2 : Nat → Nat → Nat} : ∀ i, (∀ k, k < i → N k = N2 k) → rPs ρ N i = rPs ρ N2 i
  | 0, _ => rfl
  | i + 1, h => by
    show rP1 (rPs ρ N i) (N i) = rP1 (rPs ρ N2 i) (N2 i)
    rw [rPs_congr i (fun k hk => h k (by omega)), h i (by omega)]
theorem zPass {σ ρ : QSt} (h : zIv σ) (hR : zRel σ ρ) (hn : σ 0 3 + σ 0 2 ≤ 1300 ∧ σ 0 3 < 1300) : ∀ n, σ 1 0 + n ≤ 5000 → ∃ N : Nat → Nat → Nat, (∀ i, i < n → qTick (qfPs σ i).1) ∧ (∀ i, i < n → rTick (rPs ρ N i) (N i)) ∧ (qfPs σ n).2 = qsum (fun i => N i 0 + N i 1 + N i 2 + N i 3) n ∧ zRel (qfPs σ n).1 (rPs ρ N n) ∧ zIv (qfPs σ n).1 ∧ (qfPs σ n).1 1 0 = σ 1 0 + n ∧ (∀ j, (qfPs σ n).1 0 j = σ 0 j) ∧ (qfPs σ n).1 32 3 = σ 32 3
  | 0, _ => ⟨fun _ _ => 0, fun i hi => absurd hi (Nat.not_lt_zero _), fun i hi => absurd hi (Nat.not_lt_zero _), rfl, hR, h, rfl, fun _ => rfl, rfl⟩
  | n + 1, ht => by
    obtain ⟨N, k1, k2, k3, k4, k5, k6, k7, k8⟩ := zPass h hR hn n (by omega)
    obtain ⟨t1, M, m1, m2, m3, m4, m5, m6, m7⟩ := zTick k5 k4 (by omega) (by rw [k7, k7]; exact hn)
    have hN : ∀ i, i ≤ n → rPs ρ (zup N n M) i = rPs ρ N i := fun i hi => rPs_congr i (fun k hk => zup_ne (by omega))
    refine ⟨zup N n M, fun i hi => ?_, fun i hi => ?_, ?_, ?_, m4, ?_, fun j => ?_, ?_⟩
    · rcases Nat.lt_succ_iff_lt_or_eq.mp hi with q | q
      · exact k1 i q
      · rw [q]; exact t1
    · rcases Nat.lt_succ_iff_lt_or_eq.mp hi with q | q
      · rw [hN i (by omega), zup_ne (by omega)]; exact k2 i q
      · rw [q, hN n (Nat.le_refl _), zup_eq]; exact m1
    · show (qfPs σ n).2 + (qfAs (qfTk (qfPs σ n).1 ((qfPs σ n).1 0 2)) 4).2 = _
      rw [qsum, zup_eq, m2, k3]
      congr 1
      exact (qsum_congr _ (fun i hi => by rw [zup_ne (by omega)])).symm
    · show zRel (qfP1 (qfPs σ n).1) (rP1 (rPs ρ (zup N n M) n) (zup N n M n))
      rw [hN n (Nat.le_refl _), zup_eq]
      exact m3
    · show qfP1 (qfPs σ n).1 1 0 = _
      rw [m5, k6]; omega
    · exact (m6 j).trans (k7 j)
    · exact m7.trans k8
