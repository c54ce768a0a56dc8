/-! a line comes, in both -/
theorem zLi_w {X : QSt} (hF : qWF X) (ia : zIa X) (ig : zIg X (zκ X)) (iff_ : zIf X) (io : zIo X) {s0 r0 x1 x2 x3 b0 p0 : Nat} (hp : p0 < X 0 1) (hs0 : s0 < 4) (hr0 : r0 < 5) (hx1 : x1 < 100) (hx2 : x2 < 100) (hx3 : x3 < 100) (hb0 : 1 ≤ b0 ∧ b0 ≤ 99) (hn : X 0 0 < 200) : qWF (qfLi X s0 r0 x1 x2 x3 b0 p0) ∧ zIa (qfLi X s0 r0 x1 x2 x3 b0 p0) ∧ zIg (qfLi X s0 r0 x1 x2 x3 b0 p0) (zκs (qfLi X s0 r0 x1 x2 x3 b0 p0) (X 0 0) 0) ∧ zIf (qfLi X s0 r0 x1 x2 x3 b0 p0) ∧ zIo (qfLi X s0 r0 x1 x2 x3 b0 p0) := by
  have h16 := io.2.2.2.2.1 0 (by decide)
  generalize hA : qfLi X s0 r0 x1 x2 x3 b0 p0 = A
  have e : ∀ r j, ¬ (64 ≤ r ∧ r < 96 ∧ j = X 0 0) → ¬ ((r = 0 ∨ r = 16 ∨ r = 32) ∧ j = 0) → A r j = X r j := fun r j q1 q2 => by rw [← hA]; exact qfLi_r q1 q2
  have e00 : A 0 0 = X 0 0 + 1 := by rw [← hA]; exact qfLi_00
  have e0 : ∀ j, j ≠ 0 → A 0 j = X 0 j := fun j hj => e 0 j (by omega) (by omega)
  have ei : ∀ r v, ([(64, s0), (65, r0), (66, b0), (67, X 1 0), (68, p0), (69, 107), (70, 0), (80, x1), (81, x2), (82, x3)]).find? (fun x => x.1 == r) = some (r, v) → 64 ≤ r → A r (X 0 0) = v := fun r v q1 q2 => by rw [← hA]; exact qad_in q1 q2
  have v65 := ei 65 r0 rfl (by decide)
  have v67 := ei 67 (X 1 0) rfl (by decide)
  have v69 := ei 69 107 rfl (by decide)
  have v70 := ei 70 0 rfl (by decide)
  have hlo : ∀ r j, r < 64 ∨ 96 ≤ r → r ≠ 0 → r ≠ 16 → r ≠ 32 → A r j = X r j := fun r j q1 q2 q3 q4 => e r j (by omega) (by omega)
  have ho : ∀ r l, l ≠ X 0 0 → r ≠ 0 → r ≠ 16 → r ≠ 32 → A r l = X r l := fun r l q1 q2 q3 q4 => e r l (by omega) (by omega)
  have hcn : ∀ x l, x < X 0 2 → l ≠ X 0 0 → (qcn A x l ↔ qcn X x l) := fun x l hx hl => qcn_of (hF.plc hx) (hlo 1 0 (by omega) (by decide) (by decide) (by decide)) (fun r hr _ => by rcases hr with q | q <;> exact ho r l hl (by omega) (by omega) (by omega)) (by rw [ho 69 l hl (by decide) (by decide) (by decide)]) (fun r hr => by rcases hr with q | q <;> exact hlo r x (by omega) (by omega) (by omega) (by omega))
  have hm : ∀ f l, A (1000 + f) l = X (1000 + f) l := fun f l => hlo _ l (by omega) (by omega) (by omega) (by omega)
  refine ⟨?_, ?_, ?_, ?_, ?_⟩
  · rw [← hA]; exact qfLi_wf hF hn (by omega) hp ⟨hs0, hr0, hx1, hx2, hx3, by omega⟩
  · exact ia.of (fun r j hr => e r j (by omega) (by omega)) (fun j _ => ⟨hlo _ _ (by omega) (by decide) (by decide) (by decide), hlo _ _ (by omega) (by decide) (by decide) (by decide)⟩) hF
  · refine ⟨zκs_le A (X 0 0) 0, fun x hx => ?_, fun l hl => ?_, fun l hl => ?_⟩
    · rw [e0 2 (by decide)] at hx
      rw [e00, hlo 132 x (by omega) (by decide) (by decide) (by decide), qsum, ig.2.1 x hx, show zκs A (X 0 0) 0 x (X 0 0) = 0 from if_pos ⟨rfl, Nat.zero_le _⟩, Nat.add_zero]
      refine (qsum_congr _ (fun l hl => ?_)).symm
      unfold zκs
      rw [if_neg (fun z => by omega)]
      exact qB_c (hcn x l hx (by omega))
    · rw [e00] at hl
      rw [e0 2 (by decide), e0 3 (by decide), show qsum (fun f => qB (A (1000 + f) l = 1)) (X 0 3) = qsum (fun f => qB (X (1000 + f) l = 1)) (X 0 3) from qsum_congr _ (fun f _ => by rw [hm])]
      by_cases c : l = X 0 0
      · subst c
        rw [v70, qsum_zero (f := fun a => zκs A (X 0 0) 0 a (X 0 0)) _ (fun a _ => if_pos ⟨rfl, Nat.zero_le _⟩), qsum_zero (f := fun f => qB (X (1000 + f) (X 0 0) = 1)) _ (fun f hf => qB_f (fun z => Nat.lt_irrefl _ ((iff_ f hf).1 _ z)))]
      · rw [ho 70 l c (by decide) (by decide) (by decide), ig.2.2.1 l (by omega)]
        congr 1
        refine (qsum_congr _ (fun a ha => ?_)).symm
        unfold zκs
        rw [if_neg (fun z => c z.1)]
        exact qB_c (hcn a l ha c)
    · rw [e00] at hl
      rw [ho 70 l (by omega) (by decide) (by decide) (by decide)]; exact ig.2.2.2 l (by omega)
  · intro f hf
    rw [e0 3 (by decide)] at hf
    have q := iff_ f hf
    rw [hlo 163 f (by omega) (by decide) (by decide) (by decide), hlo 162 f (by omega) (by decide) (by decide) (by decide), show A (1000 + f) = X (1000 + f) from funext (hm f), e00, qsum, qB_f (fun z => Nat.lt_irrefl _ (q.1 _ z)), Nat.add_zero]
    exact ⟨fun l hl => Nat.lt_succ_of_lt (q.1 l hl), q.2⟩
  · obtain ⟨o1, o2, o3, o4, o5, o6⟩ := io
    refine ⟨fun i j h1 h2 => ?_, fun l hl hd => ?_, fun l hl => ?_, fun x hx => ?_, fun j hj => ?_, ?_⟩
    · rw [e00] at h2
      by_cases c : j = X 0 0
      · rw [c, v67]
        by_cases d : i = X 0 0
        · rw [d, v67]; exact Nat.le_refl _
        · rw [ho 67 i d (by decide) (by decide) (by decide)]; exact hF.came (by omega)
      · rw [ho 67 i (by omega) (by decide) (by decide) (by decide), ho 67 j c (by decide) (by decide) (by decide)]; exact o1 i j h1 (by omega)
    · rw [e00] at hl
      by_cases c : l = X 0 0
      · rw [c, v69] at hd; exact absurd hd (by decide)
      · rw [ho 69 l c (by decide) (by decide) (by decide)] at hd
        rw [ho 70 l c (by decide) (by decide) (by decide)]; exact o2 l (by omega) hd
    · rw [e00] at hl
      by_cases c : l = X 0 0
      · rw [c, v65]; omega
      · rw [ho 65 l c (by decide) (by decide) (by decide)]; exact o3 l (by omega)
    · rw [e0 4 (by decide)] at hx
      rw [hlo 193 x (by omega) (by decide) (by decide) (by decide)]; exact o4 x hx
    · by_cases c : j = 0
      · rw [c, e00, show A 16 0 = X 16 0 + 1 from by rw [← hA]; exact qad_16 qfLi_ha, h16]
      · rw [e0 j c, e 16 j (by omega) (by omega)]; exact o5 j hj
    · rw [hlo 1 0 (by omega) (by decide) (by decide) (by decide)]; exact o6
/-- the lines of a state with a line more -/
theorem zLi_l {X : QSt} {s0 r0 x1 x2 x3 b0 p0 : Nat} (hl : ∀ l, l < X 0 0 → X 97 (X 68 l) = 0 ∧ X 64 l = X 96 (X 68 l) ∧ qft (fun k => X (112 + k) (X 68 l)) (fun k => X (80 + k) l)) (h97 : X 97 p0 = 0) (h96 : X 96 p0 = s0) (hf : qft (fun k => X (112 + k) p0) (fun k => if k = 0 then x1 else if k = 1 then x2 else x3)) : ∀ l, l < qfLi X s0 r0 x1 x2 x3 b0 p0 0 0 → qfLi X s0 r0 x1 x2 x3 b0 p0 97 (qfLi X s0 r0 x1 x2 x3 b0 p0 68 l) = 0 ∧ qfLi X s0 r0 x1 x2 x3 b0 p0 64 l = qfLi X s0 r0 x1 x2 x3 b0 p0 96 (qfLi X s0 r0 x1 x2 x3 b0 p0 68 l) ∧ qft (fun k => qfLi X s0 r0 x1 x2 x3 b0 p0 (112 + k) (qfLi X s0 r0 x1 x2 x3 b0 p0 68 l)) (fun k => qfLi X s0 r0 x1 x2 x3 b0 p0 (80 + k) l) := by
  intro l hl2
  rw [qfLi_00] at hl2
  have hlo : ∀ r j, 96 ≤ r → qfLi X s0 r0 x1 x2 x3 b0 p0 r j = X r j := fun r j hr => qfLi_r (by omega) (by omega)
  have ei : ∀ r v, ([(64, s0), (65, r0), (66, b0), (67, X 1 0), (68, p0), (69, 107), (70, 0), (80, x1), (81, x2), (82, x3)]).find? (fun x => x.1 == r) = some (r, v) → 64 ≤ r → qfLi X s0 r0 x1 x2 x3 b0 p0 r (X 0 0) = v := fun r v q1 q2 => qad_in q1 q2
  rw [hlo 97 _ (by decide), hlo 96 _ (by decide)]
  by_cases c : l = X 0 0
  · subst c
    rw [ei 68 p0 rfl (by decide), ei 64 s0 rfl (by decide)]
    refine ⟨h97, h96.symm, fun k hk => ?_⟩
    show qfLi X s0 r0 x1 x2 x3 b0 p0 (112 + k) p0 = 0 ∨ qfLi X s0 r0 x1 x2 x3 b0 p0 (112 + k) p0 = qfLi X s0 r0 x1 x2 x3 b0 p0 (80 + k) (X 0 0) + 1
    rw [hlo (112 + k) p0 (by omega)]
    have := hf k hk
    rcases (show k = 0 ∨ k = 1 ∨ k = 2 by omega) with rfl | rfl | rfl
    · rw [ei 80 x1 rfl (by decide)]; exact this
    · rw [ei 81 x2 rfl (by decide)]; exact this
    · rw [ei 82 x3 rfl (by decide)]; exact this
  · have e : ∀ r, qfLi X s0 r0 x1 x2 x3 b0 p0 r l = X r l ∨ (r = 0 ∨ r = 16 ∨ r = 32) := fun r => by
      by_cases d : r = 0 ∨ r = 16 ∨ r = 32
      · exact Or.inr d
      · exact Or.inl (qfLi_r (by omega) (by omega))
    have q := hl l (by omega)
    rw [(e 68).resolve_right (by decide), (e 64).resolve_right (by decide)]
    refine ⟨q.1, q.2.1, fun k hk => ?_⟩
    show qfLi X s0 r0 x1 x2 x3 b0 p0 (112 + k) (X 68 l) = 0 ∨ qfLi X s0 r0 x1 x2 x3 b0 p0 (112 + k) (X 68 l) = qfLi X s0 r0 x1 x2 x3 b0 p0 (80 + k) l + 1
    rw [hlo (112 + k) _ (by omega), (e (80 + k)).resolve_right (by omega)]
    exact q.2.2 k hk
/-- the row of a line, in both -/
theorem zLi_R {X ρ π : QSt} (hR : zRel X ρ) {s0 r0 x1 x2 x3 b0 p0 : Nat} (hπ : ∀ r j, ¬ (64 ≤ r ∧ r < 96 ∧ j = X 0 0) → ¬ (r = 0 ∧ j = 0) → π r j = ρ r j) (hπ0 : π 0 0 = X 0 0 + 1) (h64 : π 64 (X 0 0) = s0) (h65 : π 65 (X 0 0) = r0) (h66 : π 66 (X 0 0) = b0) (h67 : π 67 (X 0 0) = X 1 0) (h68 : π 68 (X 0 0) = p0) (h69 : π 69 (X 0 0) = 107) (h80 : π 80 (X 0 0) = x1) (h81 : π 81 (X 0 0) = x2) (h82 : π 82 (X 0 0) = x3) : zRel (qfLi X s0 r0 x1 x2 x3 b0 p0) π := by
  have ei : ∀ r v, ([(64, s0), (65, r0), (66, b0), (67, X 1 0), (68, p0), (69, 107), (70, 0), (80, x1), (81, x2), (82, x3)]).find? (fun x => x.1 == r) = some (r, v) → 64 ≤ r → qfLi X s0 r0 x1 x2 x3 b0 p0 r (X 0 0) = v := fun r v q1 q2 => qad_in q1 q2
  refine hR.add (J := 0) (Or.inl rfl) (fun r j q1 q2 => qfLi_r q1 q2) qfLi_00 (fun r j q1 q2 => hπ r j q1 q2) hπ0 (fun r hr => ?_) (fun z => absurd z (by decide)) (fun z => absurd z (by decide))
  have hr2 : r = 64 ∨ r = 65 ∨ r = 66 ∨ r = 67 ∨ r = 68 ∨ r = 69 ∨ r = 80 ∨ r = 81 ∨ r = 82 := by rcases hr with q | q <;> omega
  rcases hr2 with rfl | rfl | rfl | rfl | rfl | rfl | rfl | rfl | rfl
  · rw [ei 64 s0 rfl (by decide), h64]
  · rw [ei 65 r0 rfl (by decide), h65]
  · rw [ei 66 b0 rfl (by decide), h66]
  · rw [ei 67 (X 1 0) rfl (by decide), h67]
  · rw [ei 68 p0 rfl (by decide), h68]
  · rw [ei 69 107 rfl (by decide), h69]
  · rw [ei 80 x1 rfl (by decide), h80]
  · rw [ei 81 x2 rfl (by decide), h81]
  · rw [ei 82 x3 rfl (by decide), h82]
theorem rLi_o {ρ : QSt} {s0 r0 x1 x2 x3 b0 r j : Nat} (h1 : ¬ (64 ≤ r ∧ r < 96 ∧ j = ρ 0 0)) (h2 : ¬ (r = 0 ∧ j = 0)) : rLi ρ s0 r0 x1 x2 x3 b0 r j = ρ r j := by
  unfold rLi qup
  rw [if_neg h2, if_neg (by omega), if_neg (by omega), if_neg (by omega), if_neg (by omega), if_neg (by omega), if_neg (by omega), if_neg (by omega), if_neg (by omega)]
theorem rLi_v {ρ : QSt} {s0 r0 x1 x2 x3 b0 : Nat} : rLi ρ s0 r0 x1 x2 x3 b0 0 0 = ρ 0 0 + 1 ∧ rLi ρ s0 r0 x1 x2 x3 b0 64 (ρ 0 0) = s0 ∧ rLi ρ s0 r0 x1 x2 x3 b0 65 (ρ 0 0) = r0 ∧ rLi ρ s0 r0 x1 x2 x3 b0 66 (ρ 0 0) = b0 ∧ rLi ρ s0 r0 x1 x2 x3 b0 67 (ρ 0 0) = ρ 1 0 ∧ rLi ρ s0 r0 x1 x2 x3 b0 69 (ρ 0 0) = 107 ∧ rLi ρ s0 r0 x1 x2 x3 b0 80 (ρ 0 0) = x1 ∧ rLi ρ s0 r0 x1 x2 x3 b0 81 (ρ 0 0) = x2 ∧ rLi ρ s0 r0 x1 x2 x3 b0 82 (ρ 0 0) = x3 :=
  ⟨qup_s _ _ _ _, qup_s _ _ _ _, qup_s _ _ _ _, qup_s _ _ _ _, qup_s _ _ _ _, qup_s _ _ _ _, qup_s _ _ _ _, qup_s _ _ _ _, qup_s _ _ _ _⟩
abbrev zx (x1 x2 x3 : Nat) : Nat → Nat := fun k => if k = 0 then x1 else if k = 1 then x2 else x3
/-- which pattern a line fits, in both -/
theorem zFit {σ ρ : QSt} (hR : zRel σ ρ) {s0 r0 x1 x2 x3 b0 q : Nat} (hq : q < σ 0 1) : rP (rLi ρ s0 r0 x1 x2 x3 b0) (ρ 0 0) q ↔ (σ 97 q = 0 ∧ s0 = σ 96 q ∧ qft (fun k => σ (112 + k) q) (zx x1 x2 x3)) := by
  obtain ⟨v0, v64, v65, v66, v67, v69, v80, v81, v82⟩ := rLi_v (ρ := ρ) (s0 := s0) (r0 := r0) (x1 := x1) (x2 := x2) (x3 := x3) (b0 := b0)
  have e : ∀ r, 96 ≤ r → rLi ρ s0 r0 x1 x2 x3 b0 r q = ρ r q := fun r hr => rLi_o (by omega) (by omega)
  unfold rP rfit
  rw [e 97 (by decide), e 96 (by decide), v64, hR.p hq (r := 97) (by omega), hR.p hq (r := 96) (by omega)]
  have hk : (∀ k, k < 3 → rfp (rLi ρ s0 r0 x1 x2 x3 b0) (ρ 0 0) q k) ↔ qft (fun k => σ (112 + k) q) (zx x1 x2 x3) := by
    constructor
    · intro h k hk
      have := h k hk
      unfold rfp at this
      rw [e (112 + k) (by omega), hR.p hq (r := 112 + k) (by omega)] at this
      rcases (show k = 0 ∨ k = 1 ∨ k = 2 by omega) with rfl | rfl | rfl
      · rw [v80] at this; exact this
      · rw [v81] at this; exact this
      · rw [v82] at this; exact this
    · intro h k hk
      have := h k hk
      unfold rfp
      rw [e (112 + k) (by omega), hR.p hq (r := 112 + k) (by omega)]
      rcases (show k = 0 ∨ k = 1 ∨ k = 2 by omega) with rfl | rfl | rfl
      · rw [v80]; exact this
      · rw [v81]; exact this
      · rw [v82]; exact this
  rw [hk]
  exact ⟨fun z => ⟨z.1, z.2.1.symm, z.2.2⟩, fun z => ⟨z.1, z.2.1.symm, z.2.2⟩⟩
