/-! a kind of things gets one more, in both -/
abbrev zk (J r : Nat) : Prop := match J with
  | 0 => zl r
  | 1 => zp r
  | 2 => za r
  | 3 => zf r
  | _ => zq r
theorem zD.more {σ τ : QSt} {J r j : Nat} (hJ : J < 5) (e : ∀ i, i ≠ J → τ 0 i = σ 0 i) (eJ : τ 0 J = σ 0 J + 1) (h : zD τ r j) : (zk J r ∧ j = σ 0 J) ∨ zD σ r j := by
  have key : ∀ i, j < τ 0 i → (i = J ∧ j = σ 0 J) ∨ j < σ 0 i := fun i hi => by
    by_cases c : i = J
    · subst c; rw [eJ] at hi; omega
    · rw [e i c] at hi; exact Or.inr hi
  unfold zD at h ⊢
  rcases h with h | h | h | ⟨h, h7⟩ | ⟨h, h7⟩ | ⟨h, h7⟩ | ⟨h, h7⟩ | ⟨h, h7⟩
  · exact Or.inr (Or.inl h)
  · exact Or.inr (Or.inr (Or.inl h))
  · exact Or.inr (Or.inr (Or.inr (Or.inl h)))
  · rcases key 0 h7 with ⟨z1, z2⟩ | z
    · subst z1; exact Or.inl ⟨h, z2⟩
    · exact Or.inr (Or.inr (Or.inr (Or.inr (Or.inl ⟨h, z⟩))))
  · rcases key 1 h7 with ⟨z1, z2⟩ | z
    · subst z1; exact Or.inl ⟨h, z2⟩
    · exact Or.inr (Or.inr (Or.inr (Or.inr (Or.inr (Or.inl ⟨h, z⟩)))))
  · rcases key 2 h7 with ⟨z1, z2⟩ | z
    · subst z1; exact Or.inl ⟨h, z2⟩
    · exact Or.inr (Or.inr (Or.inr (Or.inr (Or.inr (Or.inr (Or.inl ⟨h, z⟩))))))
  · rcases key 3 h7 with ⟨z1, z2⟩ | z
    · subst z1; exact Or.inl ⟨h, z2⟩
    · exact Or.inr (Or.inr (Or.inr (Or.inr (Or.inr (Or.inr (Or.inr (Or.inl ⟨h, z⟩)))))))
  · rcases key 4 h7 with ⟨z1, z2⟩ | z
    · subst z1; exact Or.inl ⟨h, z2⟩
    · exact Or.inr (Or.inr (Or.inr (Or.inr (Or.inr (Or.inr (Or.inr (Or.inr ⟨h, z⟩)))))))
theorem zRel.add {σ τ ρ π : QSt} (h : zRel σ ρ) {J : Nat} (hJ : J = 0 ∨ J = 1 ∨ J = 2 ∨ J = 4) (hτ : ∀ r j, ¬ (64 + 32 * J ≤ r ∧ r < 96 + 32 * J ∧ j = σ 0 J) → ¬ ((r = 0 ∨ r = 16 ∨ r = 32) ∧ j = J) → τ r j = σ r j) (hτ0 : τ 0 J = σ 0 J + 1) (hπ : ∀ r j, ¬ (64 + 32 * J ≤ r ∧ r < 96 + 32 * J ∧ j = σ 0 J) → ¬ (r = 0 ∧ j = J) → π r j = ρ r j) (hπ0 : π 0 J = σ 0 J + 1) (hnew : ∀ r, zk J r → π r (σ 0 J) = τ r (σ 0 J)) (h134 : J = 2 → τ 134 (σ 0 J) = 0) (h195 : J = 4 → π 195 (σ 0 J) = if τ 193 (σ 0 J) = 0 then 0 else τ 194 (σ 0 J) + 1) : zRel τ π := by
  obtain ⟨g1, g2, g3, g4, g5, g6, g7⟩ := id h
  have eτ : ∀ i, i ≠ J → τ 0 i = σ 0 i := fun i hi => hτ 0 i (by omega) (fun z => hi z.2)
  have hle : ∀ i, σ 0 i ≤ τ 0 i := fun i => by
    by_cases c : i = J
    · subst c; omega
    · rw [eτ i c]; exact Nat.le_refl _
  refine ⟨fun r j hd => ?_, fun a ha z => ?_, fun f hf l => ?_, fun x hx => ?_, fun p hp => ?_, fun a ha => ?_, fun f hf => ?_⟩
  · have q := hd.ne
    by_cases c : zk J r ∧ j = σ 0 J
    · rw [c.2]; exact hnew r c.1
    by_cases c0 : r = 0 ∧ j = J
    · rw [c0.1, c0.2, hπ0, hτ0]
    have hz := (hd.more (J := J) (by omega) eτ hτ0).resolve_left c
    have c5 : ¬ (64 + 32 * J ≤ r ∧ r < 96 + 32 * J ∧ j = σ 0 J) := by
      rintro ⟨z1, z2, z3⟩
      subst z3
      unfold zD at hz
      rcases hJ with rfl | rfl | rfl | rfl
      · rcases hz with y | y | y | ⟨y, w⟩ | ⟨y, w⟩ | ⟨y, w⟩ | ⟨y, w⟩ | ⟨y, w⟩ <;> omega
      · rcases hz with y | y | y | ⟨y, w⟩ | ⟨y, w⟩ | ⟨y, w⟩ | ⟨y, w⟩ | ⟨y, w⟩ <;> omega
      · rcases hz with y | y | y | ⟨y, w⟩ | ⟨y, w⟩ | ⟨y, w⟩ | ⟨y, w⟩ | ⟨y, w⟩ <;> omega
      · rcases hz with y | y | y | ⟨y, w⟩ | ⟨y, w⟩ | ⟨y, w⟩ | ⟨y, w⟩ | ⟨y, w⟩ <;> omega
    rw [hπ r j c5 c0, hτ r j c5 (fun z => by
      rcases z with ⟨z1 | z1 | z1, z2⟩
      · exact c0 ⟨z1, z2⟩
      · exact q.2.1 z1
      · exact q.2.2.1 z1)]
    exact g1 r j hz
  · by_cases c : J = 2 ∧ a = σ 0 2
    · obtain ⟨rfl, rfl⟩ := c
      exact absurd (h134 rfl) z
    · have ha2 : a < σ 0 2 := by
        by_cases d : J = 2
        · subst d; rw [hτ0] at ha; omega
        · rw [eτ 2 (fun z => d z.symm)] at ha; exact ha
      have e : τ 134 a = σ 134 a := hτ 134 a (by rintro ⟨z1, z2, z3⟩; have : J = 2 := by omega
                                                 subst this; omega) (by omega)
      rw [e] at z ⊢
      rw [hπ 135 a (by rintro ⟨z1, z2, z3⟩; have : J = 2 := by omega
                       subst this; omega) (by omega)]
      exact g2 a ha2 z
  · rw [eτ 3 (by omega)] at hf
    rw [hτ _ l (by omega) (by omega), hπ 162 f (by omega) (by omega), hπ _ l (by omega) (by omega)]
    exact g3 f hf l
  · by_cases c : J = 4 ∧ x = σ 0 4
    · obtain ⟨rfl, rfl⟩ := c
      exact h195 rfl
    · have hx2 : x < σ 0 4 := by
        by_cases d : J = 4
        · subst d; rw [hτ0] at hx; omega
        · rw [eτ 4 (fun z => d z.symm)] at hx; exact hx
      have e : ∀ r, 192 ≤ r → r < 224 → ¬ (64 + 32 * J ≤ r ∧ r < 96 + 32 * J ∧ x = σ 0 J) := by
        rintro r q1 q2 ⟨z1, z2, z3⟩
        have : J = 4 := by omega
        subst this; omega
      rw [hπ 195 x (e 195 (by decide) (by decide)) (by omega), hτ 193 x (e 193 (by decide) (by decide)) (by omega), hτ 194 x (e 194 (by decide) (by decide)) (by omega)]
      exact g4 x hx2
  · have hp2 : σ 0 1 ≤ p := Nat.le_trans (hle 1) hp
    rw [hπ 97 p (by rintro ⟨z1, z2, z3⟩; have : J = 1 := by omega
                    subst this; omega) (by omega)]
    exact g5 p hp2
  · have ha2 : σ 0 2 ≤ a := Nat.le_trans (hle 2) ha
    rw [hπ 133 a (by rintro ⟨z1, z2, z3⟩; have : J = 2 := by omega
                     subst this; omega) (by omega)]
    exact g6 a ha2
  · rw [eτ 3 (by omega)] at hf
    exact ⟨by rw [hπ 162 f (by omega) (by omega)]; exact (g7 f hf).1, fun l => by rw [hπ _ l (by omega) (by omega)]; exact (g7 f hf).2 l⟩
/-! requests -/
theorem qfRq_wf {σ : QSt} (h : qWF σ) {s0 r0 : Nat} (hn : σ 0 4 < 20) (h16 : σ 16 4 + 1 < 1073741824) (hs0 : s0 < 4) (hr0 : r0 < 5) (ht : σ 1 0 ≤ 5000) : qWF (qfRq σ s0 r0) := by
  have hn2 := h.n
  have hq := qarch_lt h s0 0 0 0
  have hz : ∀ j, j ≠ 4 → qfRq σ s0 r0 0 j = σ 0 j := fun j hj => qad_r qfRq_ha (by omega) (by omega)
  have e4 : qfRq σ s0 r0 0 4 = σ 0 4 + 1 := qad_0 qfRq_ha
  refine h.grow (J := 4) (by decide) (qad_b h qfRq_ha (fun x hx => ?_) h16) ?_ e4 (qad_32 qfRq_ha) (fun r j _ g2 g3 => qad_r qfRq_ha g2 g3) (fun j => ?_) (fun y => absurd y (by decide)) (fun y => absurd y (by decide)) (fun y => absurd y (by decide))
  · simp only [List.mem_cons, List.not_mem_nil, or_false] at hx
    rcases hx with rfl | rfl | rfl | rfl | rfl <;> simp only <;> omega
  · rw [hz 0 (by decide), hz 1 (by decide), hz 2 (by decide), hz 3 (by decide), e4]; omega
  · by_cases c : j = 4
    · rw [c, e4]; omega
    · rw [hz j c]; exact (h.cap j).2.2
theorem zReq {σ ρ : QSt} (h : zIv σ) (hR : zRel σ ρ) {s0 r0 : Nat} (hs0 : s0 < 4) (hr0 : r0 < 5) (hn : σ 0 4 < 20) : zRel (qfRq σ s0 r0) (rRq ρ s0 r0) ∧ zIv (qfRq σ s0 r0) := by
  obtain ⟨hw, hk, hf, hrq⟩ := id h
  obtain ⟨hF, ia, ig, iff_, ip, io⟩ := id hw
  have e : ∀ r j, ¬ (192 ≤ r ∧ r < 224 ∧ j = σ 0 4) → ¬ ((r = 0 ∨ r = 16 ∨ r = 32) ∧ j = 4) → qfRq σ s0 r0 r j = σ r j := fun r j q1 q2 => qad_r qfRq_ha q1 q2
  have e4 : qfRq σ s0 r0 0 4 = σ 0 4 + 1 := qad_0 qfRq_ha
  have e0 : ∀ j, j ≠ 4 → qfRq σ s0 r0 0 j = σ 0 j := fun j hj => e 0 j (by omega) (by omega)
  have er : ∀ r j, r < 192 → r ≠ 0 → r ≠ 16 → r ≠ 32 → qfRq σ s0 r0 r j = σ r j := fun r j _ _ _ _ => e r j (by omega) (by omega)
  have eb : ∀ r j, 224 ≤ r → qfRq σ s0 r0 r j = σ r j := fun r j _ => e r j (by omega) (by omega)
  have n4 : ρ 0 4 = σ 0 4 := hR.n (by decide)
  have n0 : ρ 0 0 = σ 0 0 := hR.n (by decide)
  have v192 : qfRq σ s0 r0 192 (σ 0 4) = σ 1 0 + 2 + qarch σ s0 0 0 0 / 3 := qad_in (r := 192) rfl (by decide)
  have v193 : qfRq σ s0 r0 193 (σ 0 4) = 0 := qad_in (r := 193) rfl (by decide)
  have v208 : qfRq σ s0 r0 208 (σ 0 4) = s0 := qad_in (r := 208) rfl (by decide)
  have v209 : qfRq σ s0 r0 209 (σ 0 4) = r0 := qad_in (r := 209) rfl (by decide)
  have hC : qsum (fun l => qB (ρ 64 l = s0 ∧ ρ 69 l = 97 ∧ 0 ≤ ρ 65 l)) (ρ 0 0) = qarch σ s0 0 0 0 := by
    unfold qarch
    rw [n0]
    refine qsum_congr _ (fun l hl => qB_c ?_)
    rw [hR.l hl (r := 64) (by omega), hR.l hl (r := 69) (by omega), hR.l hl (r := 65) (by omega)]
    unfold qtk
    exact ⟨fun z => ⟨z.2.1, z.1, z.2.2, Or.inl rfl⟩, fun z => ⟨z.2.1, z.1, z.2.2.1⟩⟩
  refine ⟨?_, ?_, ?_, ?_, ?_⟩
  · refine hR.add (J := 4) (Or.inr (Or.inr (Or.inr rfl))) (fun r j q1 q2 => e r j q1 q2) e4 (fun r j q1 q2 => ?_) ?_ (fun r hr => ?_) (fun z => absurd z (by decide)) (fun _ => ?_)
    · unfold rRq
      rw [n4]
      unfold qup
      rw [if_neg q2, if_neg (by omega), if_neg (by omega), if_neg (by omega), if_neg (by omega)]
    · unfold rRq; rw [n4, qup_s]
    · rcases hr with rfl | rfl | rfl
      · rw [v192]; unfold rRq; rw [qup_k (by decide), qup_k (by decide), n4, qup_s, hC, hR.t]
      · rw [v208]; unfold rRq; rw [qup_k (by decide), qup_k (by decide), qup_k (by decide), qup_k (by decide), n4, qup_s]
      · rw [v209]; unfold rRq; rw [qup_k (by decide), qup_k (by decide), qup_k (by decide), n4, qup_s]
    · rw [v193, if_pos rfl]; unfold rRq; rw [qup_k (by decide), n4, qup_s]
  · have hw2 : zIw (qfRq σ s0 r0) (zκ σ) := by
      have h16 := io.2.2.2.2.1 4 (by decide)
      refine ⟨qfRq_wf hF hn (by omega) hs0 hr0 io.2.2.2.2.2, ?_, ?_, ?_, ?_, ?_⟩
      · exact ia.of (fun r j hr => by
          by_cases c : r = 0
          · subst c; exact e0 j (by omega)
          · exact er r j (by omega) c (by omega) (by omega)) (fun j _ => ⟨er _ _ (by decide) (by decide) (by decide) (by decide), er _ _ (by decide) (by decide) (by decide) (by decide)⟩) hF
      · exact ig.of (fun r j hr => e r j (by omega) (by omega))
      · exact iff_.of (fun r j hr => e r j (by omega) (by omega))
      · exact ip.of (fun r j hr => e r j (by omega) (by omega))
      · obtain ⟨o1, o2, o3, o4, o5, o6⟩ := io
        refine ⟨fun i j h1 h2 => ?_, fun l hl hd => ?_, fun l hl => ?_, fun x hx => ?_, fun j hj => ?_, ?_⟩
        · rw [e0 0 (by decide)] at h2
          rw [er 67 i (by decide) (by decide) (by decide) (by decide), er 67 j (by decide) (by decide) (by decide) (by decide)]; exact o1 i j h1 h2
        · rw [e0 0 (by decide)] at hl
          rw [er 69 l (by decide) (by decide) (by decide) (by decide)] at hd
          rw [er 70 l (by decide) (by decide) (by decide) (by decide)]; exact o2 l hl hd
        · rw [e0 0 (by decide)] at hl
          rw [er 65 l (by decide) (by decide) (by decide) (by decide)]; exact o3 l hl
        · rw [e4] at hx
          by_cases c : x = σ 0 4
          · rw [c, v193]; exact Nat.zero_le _
          · rw [e 193 x (by omega) (by omega)]; exact o4 x (by omega)
        · by_cases c : j = 4
          · rw [c, e4, show qfRq σ s0 r0 16 4 = σ 16 4 + 1 from qad_16 qfRq_ha, h16]
          · rw [e0 j c, e 16 j (by omega) (by omega)]; exact o5 j hj
        · rw [er 1 0 (by decide) (by decide) (by decide) (by decide)]; exact o6
    exact hw2.cong (fun a l => qB_le) (fun a l ha _ => by
      rw [e0 2 (by decide)] at ha
      exact qB_c (qcn_of (hF.plc ha) (er 1 0 (by decide) (by decide) (by decide) (by decide)) (fun r hr _ => by rcases hr with q | q <;> exact er r l (by omega) (by omega) (by omega) (by omega)) (by rw [er 69 l (by decide) (by decide) (by decide) (by decide)]) (fun r hr => by rcases hr with q | q <;> exact er r a (by omega) (by omega) (by omega) (by omega))))
  · intro a ha
    rw [e0 2 (by decide)] at ha
    have := hk a ha
    unfold zLk at this ⊢
    rw [er 131 a (by decide) (by decide) (by decide) (by decide), er 128 a (by decide) (by decide) (by decide) (by decide), er 132 a (by decide) (by decide) (by decide) (by decide)]
    exact this
  · rw [e0 3 (by decide), e0 0 (by decide), e0 2 (by decide)]; exact hf
  · intro x hx
    rw [e4] at hx
    rw [er 1 0 (by decide) (by decide) (by decide) (by decide)]
    by_cases c : x = σ 0 4
    · rw [c, v193, v192]
      exact ⟨fun _ => by omega, fun z => absurd rfl z⟩
    · rw [e 193 x (by omega) (by omega), e 192 x (by omega) (by omega)]
      exact hrq x (by omega)
