/-! archive, setBudget, release, in both -/
theorem zIv.drop {σ τ : QSt} (h : zIv σ) (hτ : ∀ r j, r ≠ 69 → τ r j = σ r j) (hw : zIw τ (zκ τ)) : zIv τ := by
  obtain ⟨_, hk, hf, hrq⟩ := h
  refine ⟨hw, fun a ha => ?_, ?_, fun x hx => ?_⟩
  · rw [hτ 0 2 (by decide)] at ha
    have := hk a ha
    unfold zLk at this ⊢
    rw [hτ 131 a (by decide), hτ 128 a (by decide), hτ 132 a (by decide)]; exact this
  · rw [hτ 0 3 (by decide), hτ 0 0 (by decide), hτ 0 2 (by decide)]; exact hf
  · rw [hτ 0 4 (by decide)] at hx
    rw [hτ 193 x (by decide), hτ 192 x (by decide), hτ 1 0 (by decide)]; exact hrq x hx
theorem zArc {σ ρ : QSt} (h : zIv σ) (hR : zRel σ ρ) {l0 : Nat} (hl0 : l0 < σ 0 0) (h0 : σ 69 l0 = 107) : zIv (qup σ 69 l0 97) ∧ zRel (qup σ 69 l0 97) (qup ρ 69 l0 97) := by
  obtain ⟨hF, ia, ig, iff_, ip, io⟩ := id h.1
  have e : ∀ r j, r ≠ 69 → qup σ 69 l0 97 r j = σ r j := fun r j hr => qup_k hr
  refine ⟨h.drop e ?_, hR.up 97 (by decide) (fun z => absurd z (by decide)) (fun z => absurd z (by decide))⟩
  have hw : zIw (qup σ 69 l0 97) (zκ σ) := by
    refine ⟨hF.up 69 l0 97 (by decide) (by decide) (by decide) (fun z => absurd z (by decide)) (fun _ => by decide) (fun z => absurd z (by decide)) (fun z => absurd z (by decide)), ia.of (fun r j hr => e r j (by omega)) (fun j _ => ⟨e _ _ (by decide), e _ _ (by decide)⟩) hF, ig.of (fun r j hr => e r j (by omega)), iff_.of (fun r j hr => e r j (by omega)), ip.of (fun r j hr => e r j (by omega)), ?_⟩
    obtain ⟨o1, o2, o3, o4, o5, o6⟩ := io
    refine ⟨fun i j h1 h2 => ?_, fun l hl hd => ?_, fun l hl => ?_, fun x hx => ?_, fun j hj => ?_, ?_⟩
    · rw [e 67 i (by decide), e 67 j (by decide)]; exact o1 i j h1 h2
    · rw [e 70 l (by decide)]
      by_cases c : l = l0
      · rw [c, qup_s] at hd; exact absurd hd (by decide)
      · rw [qup_j c] at hd; exact o2 l hl hd
    · rw [e 65 l (by decide)]; exact o3 l hl
    · rw [e 193 x (by decide)]; exact o4 x hx
    · rw [e 16 j (by decide), e 0 j (by decide)]; exact o5 j hj
    · rw [e 1 0 (by decide)]; exact o6
  refine hw.cong (fun a l => qB_le) (fun a l ha _ => qB_c (qcn_of (hF.plc ha) (e 1 0 (by decide)) (fun r _ hr2 => e r l hr2.1) ?_ (fun r hr => e r a (by omega))))
  by_cases c : l = l0
  · rw [c, qup_s, h0]; exact ⟨fun _ => by decide, fun _ => by decide⟩
  · rw [qup_j c]
theorem zBud {σ ρ : QSt} (h : zIv σ) (hR : zRel σ ρ) {s0 b0 : Nat} (hs0 : s0 < 4) (hb0 : b0 ≤ 9999) : rDrp (qup ρ 48 s0 b0) s0 (qfLs (qup σ 48 s0 b0) s0 200).2 ∧ zRel (qfLs (qup σ 48 s0 b0) s0 200).1 (rDs (qup ρ 48 s0 b0) s0 (qfLs (qup σ 48 s0 b0) s0 200).2) ∧ zIv (qfLs (qup σ 48 s0 b0) s0 200).1 := by
  obtain ⟨hF, ia, ig, iff_, ip, io⟩ := id h.1
  have e : ∀ r j, r ≠ 48 → qup σ 48 s0 b0 r j = σ r j := fun r j hr => qup_k hr
  have hF2 : qWF (qup σ 48 s0 b0) := hF.bud s0 b0 (by omega)
  have hw : zIw (qup σ 48 s0 b0) (zκ (qup σ 48 s0 b0)) := by
    have hw1 : zIw (qup σ 48 s0 b0) (zκ σ) := ⟨hF2, ia.of (fun r j hr => e r j (by omega)) (fun j _ => ⟨e _ _ (by decide), e _ _ (by decide)⟩) hF, ig.of (fun r j hr => e r j (by omega)), iff_.of (fun r j hr => e r j (by omega)), ip.of (fun r j hr => e r j (by omega)), io⟩
    exact hw1.cong (fun a l => qB_le) (fun a l ha _ => qB_c (qcn_of (hF.plc ha) (e 1 0 (by decide)) (fun r hr _ => e r l (by omega)) (by rw [e 69 l (by decide)]) (fun r hr => e r a (by omega))))
  have hR2 := hR.up (r := 48) (i := s0) b0 (by decide) (fun z => absurd z (by decide)) (fun z => absurd z (by decide))
  obtain ⟨k1, k2, k3⟩ := zDrop s0 hs0 200 _ _ hw hR2 (zNk_le hF2 s0)
  have h2 : zIv (qup σ 48 s0 b0) := ⟨hw, h.2.1, h.2.2.1, h.2.2.2⟩
  exact ⟨k1, k2, h2.drop (fun r j hr => zLs_r hF2 hr) k3⟩
theorem zGu_r {X : QSt} {f r j : Nat} (h1 : r ≠ 70) (h2 : r ≠ 163) (h3 : r ≠ 1000 + f) : qfGu X f r j = X r j := by
  unfold qfGu qfCl
  rw [qup_k h2, qset_k h3, qset_k h1]
theorem zRls {σ ρ : QSt} (h : zIv σ) (hR : zRel σ ρ) {f : Nat} (hf : f < σ 0 3) (h0 : σ 162 f = 0) (h1 : σ 131 (σ 160 f) = 113 ∨ σ 134 (σ 160 f) ≠ f + 1) : (∀ l0, l0 < σ 0 0 → σ (1000 + f) l0 = 1 → 1 ≤ σ 70 l0) ∧ zIv (qfGu (qup σ 162 f 1) f) ∧ zRel (qfGu (qup σ 162 f 1) f) (qup ρ 162 f 1) := by
  obtain ⟨hw, hk, hfn, hrq⟩ := id h
  obtain ⟨hF, ia, ig, iff_, ip, io⟩ := id hw
  have hn := hF.n
  have g1 : ∀ l0, l0 < σ 0 0 → σ (1000 + f) l0 = 1 → 1 ≤ σ 70 l0 := fun l0 hl hm => by
    have q1 := qsum_le1 (f := fun g => qB (σ (1000 + g) l0 = 1)) (l0 := f) (σ 0 3) hf
    have q2 : qB (σ (1000 + f) l0 = 1) = 1 := qB_t hm
    have q3 : qB (σ (1000 + f) l0 = 1) ≤ qsum (fun g => qB (σ (1000 + g) l0 = 1)) (σ 0 3) := q1
    rw [ig.2.2.1 l0 hl]; omega
  have eX : ∀ r j, r ≠ 162 → qup σ 162 f 1 r j = σ r j := fun r j hr => qup_k hr
  have e : ∀ r j, r ≠ 70 → r ≠ 162 → r ≠ 163 → r ≠ 1000 + f → qfGu (qup σ 162 f 1) f r j = σ r j := fun r j q1 q2 q3 q4 => (zGu_r q1 q3 q4).trans (eX r j q2)
  have e162 : qfGu (qup σ 162 f 1) f 162 f = 1 := (zGu_r (by decide) (by decide) (by omega)).trans (qup_s _ _ _ _)
  have e162x : ∀ g, g ≠ f → qfGu (qup σ 162 f 1) f 162 g = σ 162 g := fun g hg => (zGu_r (by decide) (by decide) (by omega)).trans (qup_j hg)
  have em : ∀ l, qfGu (qup σ 162 f 1) f (1000 + f) l ≠ 1 := fun l => by
    unfold qfGu qfCl
    rw [qup_k (by omega)]
    by_cases c : l < 64 * 4
    · rw [qset_in (P := fun l => l < 64 * 4) c]; decide
    · rw [qset_out (P := fun l => l < 64 * 4) c, qset_k (by omega), eX _ _ (by omega)]
      intro z
      have := (iff_ f hf).1 l z
      omega
  have e70 : ∀ l, qfGu (qup σ 162 f 1) f 70 l = if l < σ 0 0 ∧ σ (1000 + f) l = 1 then σ 70 l - 1 else σ 70 l := fun l => by
    unfold qfGu qfCl
    rw [qup_k (by decide), qset_k (by omega)]
    by_cases c : l < σ 0 0 ∧ σ (1000 + f) l = 1
    · rw [if_pos c, qset_in (show l < qup σ 162 f 1 0 0 ∧ qup σ 162 f 1 (1000 + f) l = 1 from ⟨c.1, (eX _ _ (by omega)).trans c.2⟩)]
      rw [eX 70 l (by decide)]
    · rw [if_neg c, qset_out (fun z : l < qup σ 162 f 1 0 0 ∧ qup σ 162 f 1 (1000 + f) l = 1 => c ⟨z.1, (eX _ _ (by omega)).symm.trans z.2⟩)]
      exact eX 70 l (by decide)
  have e163 : qfGu (qup σ 162 f 1) f 163 f = 0 := by unfold qfGu qfCl; exact qup_s _ _ _ _
  have e163x : ∀ g, g ≠ f → qfGu (qup σ 162 f 1) f 163 g = σ 163 g := fun g hg => by
    unfold qfGu qfCl
    rw [qup_j hg, qset_k (by omega), qset_k (by decide)]
    exact eX 163 g (by decide)
  have hw2 : zIw (qfGu (qup σ 162 f 1) f) (zκ σ) := by
    refine ⟨?_, ?_, ?_, ?_, ?_, ?_⟩
    · have k1 : qWF (qup σ 162 f 1) := hF.up 162 f 1 (by decide) (by decide) (by decide) (fun z => absurd z (by decide)) (fun z => absurd z (by decide)) (fun z => absurd z (by decide)) (fun z => absurd z (by decide))
      unfold qfGu qfCl
      refine ((k1.set 70 _ _ (by decide) (fun j _ => Nat.lt_of_le_of_lt (Nat.sub_le _ _) (k1.b 70 j)) (by decide)).set (1000 + f) _ _ (by omega) (fun j _ => by decide) (by omega)).up 163 f 0 (by decide) (by decide) (by decide) (fun z => absurd z (by decide)) (fun z => absurd z (by decide)) (fun z => absurd z (by decide)) (fun z => absurd z (by decide))
    · intro a ha
      rw [e 0 2 (by decide) (by decide) (by decide) (by omega)] at ha
      have g := ia a ha
      rw [e 131 a (by decide) (by decide) (by decide) (by omega), e 133 a (by decide) (by decide) (by decide) (by omega), e 130 a (by decide) (by decide) (by decide) (by omega), e 128 a (by decide) (by decide) (by decide) (by omega), e 129 a (by decide) (by decide) (by decide) (by omega), e 134 a (by decide) (by decide) (by decide) (by omega), e 160 _ (by decide) (by decide) (by decide) (by omega)]
      refine ⟨g.1, g.2.1, g.2.2.1, g.2.2.2.1, g.2.2.2.2.1, g.2.2.2.2.2.1, g.2.2.2.2.2.2.1, g.2.2.2.2.2.2.2.1, g.2.2.2.2.2.2.2.2.1, fun z => ?_⟩
      have q := g.2.2.2.2.2.2.2.2.2 z
      refine ⟨q.1, ?_⟩
      by_cases c : σ 134 a - 1 = f
      · have q2 := g.2.2.2.2.2.2.2.2.1 q.1
        rw [c] at q2
        rw [q2] at h1
        rcases h1 with y | y
        · exact absurd y z
        · exact absurd (by have := q.1; omega) y
      · rw [e162x _ c]; exact q.2
    · refine ⟨ig.1, fun a ha => ?_, fun l hl => ?_, fun l hl => ?_⟩
      · rw [e 0 2 (by decide) (by decide) (by decide) (by omega)] at ha
        rw [e 0 0 (by decide) (by decide) (by decide) (by omega), e 132 a (by decide) (by decide) (by decide) (by omega)]
        exact ig.2.1 a ha
      · rw [e 0 0 (by decide) (by decide) (by decide) (by omega)] at hl
        rw [e 0 2 (by decide) (by decide) (by decide) (by omega), e 0 3 (by decide) (by decide) (by decide) (by omega), e70]
        have hu := qsum_upd (f := fun g => qB (σ (1000 + g) l = 1)) (g := fun g => qB (qfGu (qup σ 162 f 1) f (1000 + g) l = 1)) (l0 := f) (fun g hg => by
          show qB (qfGu (qup σ 162 f 1) f (1000 + g) l = 1) = qB (σ (1000 + g) l = 1)
          rw [e (1000 + g) l (by omega) (by omega) (by omega) (by omega)]) (σ 0 3) hf
        have hu2 : qsum (fun g => qB (qfGu (qup σ 162 f 1) f (1000 + g) l = 1)) (σ 0 3) + qB (σ (1000 + f) l = 1) = qsum (fun g => qB (σ (1000 + g) l = 1)) (σ 0 3) + qB (qfGu (qup σ 162 f 1) f (1000 + f) l = 1) := hu
        rw [qB_f (em l)] at hu2
        have hg := ig.2.2.1 l hl
        by_cases c : σ (1000 + f) l = 1
        · rw [if_pos ⟨hl, c⟩]; rw [qB_t c] at hu2; omega
        · rw [if_neg (fun z => c z.2)]; rw [qB_f c] at hu2; omega
      · rw [e 0 0 (by decide) (by decide) (by decide) (by omega)] at hl
        rw [e70, if_neg (fun z => by omega)]; exact ig.2.2.2 l hl
    · intro g hg
      rw [e 0 3 (by decide) (by decide) (by decide) (by omega)] at hg
      rw [e 0 0 (by decide) (by decide) (by decide) (by omega)]
      by_cases c : g = f
      · subst c
        exact ⟨fun l hl => absurd hl (em l), by rw [e163]; exact (qsum_zero _ (fun l _ => qB_f (em l))).symm, by rw [e162]; exact Nat.le_refl 1, fun _ => em⟩
      · rw [e163x g c, e162x g c, show qfGu (qup σ 162 f 1) f (1000 + g) = σ (1000 + g) from funext fun l => e _ l (by omega) (by omega) (by omega) (by omega)]
        exact iff_ g hg
    · exact ip.of (fun r j hr => e r j (by omega) (by omega) (by omega) (by omega))
    · refine io.of (fun r j hr => e r j (by omega) (by omega) (by omega) (by omega)) (fun l hl hd h70 => ?_) (fun j hj => by rw [e 16 j (by decide) (by decide) (by decide) (by omega), e 0 j (by decide) (by decide) (by decide) (by omega)]; exact io.2.2.2.2.1 j hj)
      rw [e70, h70]
      split <;> rfl
  have hw3 : zIw (qfGu (qup σ 162 f 1) f) (zκ (qfGu (qup σ 162 f 1) f)) := hw2.cong (fun a l => qB_le) (fun a l ha _ => by
    rw [e 0 2 (by decide) (by decide) (by decide) (by omega)] at ha
    exact qB_c (qcn_of (hF.plc ha) (e 1 0 (by decide) (by decide) (by decide) (by omega)) (fun r hr _ => e r l (by omega) (by omega) (by omega) (by omega)) (by rw [e 69 l (by decide) (by decide) (by decide) (by omega)]) (fun r hr => e r a (by omega) (by omega) (by omega) (by omega))))
  refine ⟨g1, ⟨hw3, fun a ha => ?_, ?_, fun x hx => ?_⟩, ?_⟩
  · rw [e 0 2 (by decide) (by decide) (by decide) (by omega)] at ha
    have := hk a ha
    unfold zLk at this ⊢
    rw [e 131 a (by decide) (by decide) (by decide) (by omega), e 128 a (by decide) (by decide) (by decide) (by omega), e 132 a (by decide) (by decide) (by decide) (by omega)]; exact this
  · rw [e 0 3 (by decide) (by decide) (by decide) (by omega), e 0 0 (by decide) (by decide) (by decide) (by omega), e 0 2 (by decide) (by decide) (by decide) (by omega)]; exact hfn
  · rw [e 0 4 (by decide) (by decide) (by decide) (by omega)] at hx
    rw [e 193 x (by decide) (by decide) (by decide) (by omega), e 192 x (by decide) (by decide) (by decide) (by omega), e 1 0 (by decide) (by decide) (by decide) (by omega)]; exact hrq x hx
  · obtain ⟨k1, k2, k3, k4, k5, k6, k7⟩ := id hR
    have e0 : ∀ j, qfGu (qup σ 162 f 1) f 0 j = σ 0 j := fun j => e 0 j (by decide) (by decide) (by decide) (by omega)
    refine ⟨fun r j hd => ?_, fun a ha z => ?_, fun g hg l => ?_, fun x hx => ?_, fun p hp => ?_, fun a ha => ?_, fun g hg => ?_⟩
    · have q := hd.ne
      by_cases c : r = 162
      · subst c
        by_cases d : j = f
        · rw [d, e162, qup_s]
        · rw [e162x j d, qup_j d]
          exact k1 162 j (hd.cast (e0 _) (e0 _) (e0 _) (e0 _) (e0 _))
      · rw [e r j q.2.2.2.1 c q.2.2.2.2.2.2.2.1 (by have := q.2.2.2.2.2.2.2.2.2.2.2; omega), qup_k c]
        exact k1 r j (hd.cast (e0 _) (e0 _) (e0 _) (e0 _) (e0 _))
    · rw [e0] at ha
      rw [e 134 a (by decide) (by decide) (by decide) (by omega)] at z ⊢
      rw [qup_k (by decide)]
      exact k2 a ha z
    · rw [e0] at hg
      by_cases c : g = f
      · subst c
        rw [qup_s]
        exact ⟨fun z => absurd z (em l), fun z => absurd z.1 (by decide)⟩
      · rw [e (1000 + g) l (by omega) (by omega) (by omega) (by omega), qup_j c, qup_k (by omega)]
        exact k3 g hg l
    · rw [e0] at hx
      rw [qup_k (by decide), e 193 x (by decide) (by decide) (by decide) (by omega), e 194 x (by decide) (by decide) (by decide) (by omega)]
      exact k4 x hx
    · rw [e0] at hp
      rw [qup_k (by decide)]; exact k5 p hp
    · rw [e0] at ha
      rw [qup_k (by decide)]; exact k6 a ha
    · rw [e0] at hg
      exact ⟨by rw [qup_j (by omega)]; exact (k7 g hg).1, fun l => by rw [qup_k (by omega)]; exact (k7 g hg).2 l⟩
