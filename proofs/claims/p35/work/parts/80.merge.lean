/-! merging, in both -/
theorem qfM_68 {σ : QSt} {a b j : Nat} : qfM σ a b 68 j = if j < σ 0 0 ∧ σ 68 j = b then a else σ 68 j := by
  unfold qfM qfMl
  have e : qup (qfMw σ a b 3) 97 b 1 68 j = σ 68 j := (qup_k (by decide)).trans (qfMw_at (by omega))
  rw [e]
  by_cases c : j < σ 0 0 ∧ σ 68 j = b
  · rw [if_pos c, if_pos ⟨rfl, c⟩]
  · rw [if_neg c, if_neg (fun z => c z.2)]
theorem qfM_97 {σ : QSt} {a b j : Nat} : qfM σ a b 97 j = if j = b then 1 else σ 97 j := by
  unfold qfM
  rw [qfMl_r (by decide)]
  by_cases c : j = b
  · rw [if_pos c, c, qup_s]
  · rw [if_neg c, qup_j c]; exact qfMw_at (by omega)
theorem qfM_w {σ : QSt} {a b j k : Nat} (hk : k < 3) : qfM σ a b (112 + k) j = if j = a ∧ σ (112 + k) a ≠ σ (112 + k) b then 0 else σ (112 + k) j := by
  unfold qfM
  rw [qfMl_r (by omega), qup_k (by omega)]
  unfold qfMw
  by_cases c : j = a ∧ σ (112 + k) a ≠ σ (112 + k) b
  · rw [if_pos c, if_pos ⟨by omega, by omega, c⟩]
  · rw [if_neg c, if_neg (fun z => c z.2.2)]
theorem zRel.mg {σ ρ : QSt} (h : zRel σ ρ) {a b : Nat} (ha : a < σ 0 1) (hb : b < σ 0 1) : zRel (qfM σ a b) (qfM ρ a b) := by
  obtain ⟨g1, g2, g3, g4, g5, g6, g7⟩ := id h
  have e : ∀ r j, r < 112 ∨ 115 ≤ r → r ≠ 68 → r ≠ 97 → qfM σ a b r j = σ r j := fun r j q1 q2 q3 => qfM_r q1 q2 q3
  have e' : ∀ r j, r < 112 ∨ 115 ≤ r → r ≠ 68 → r ≠ 97 → qfM ρ a b r j = ρ r j := fun r j q1 q2 q3 => qfM_r q1 q2 q3
  have e0 : ∀ j, qfM σ a b 0 j = σ 0 j := fun j => e 0 j (by omega) (by decide) (by decide)
  refine ⟨fun r j hd => ?_, fun x hx z => ?_, fun f hf l => ?_, fun x hx => ?_, fun p hp => ?_, fun x hx => ?_, fun f hf => ?_⟩
  · have hd2 : zD σ r j := hd.cast (e0 _) (e0 _) (e0 _) (e0 _) (e0 _)
    have hv := g1 r j hd2
    by_cases c1 : r = 68
    · subst c1
      have hj : j < σ 0 0 := by
        unfold zD at hd2
        rcases hd2 with q | q | q | q | q | q | q | q <;> first | exact q.2 | (exfalso; omega)
      rw [qfM_68, qfM_68, h.n (by decide), hv]
    by_cases c2 : r = 97
    · subst c2
      rw [qfM_97, qfM_97, hv]
    by_cases c3 : 112 ≤ r ∧ r < 115
    · obtain ⟨k, rfl⟩ : ∃ k, r = 112 + k := ⟨r - 112, by omega⟩
      rw [qfM_w (by omega), qfM_w (by omega), h.p ha (r := 112 + k) (by omega), h.p hb (r := 112 + k) (by omega), hv]
    · rw [e r j (by omega) c1 c2, e' r j (by omega) c1 c2]; exact hv
  · rw [e0] at hx
    rw [e 134 x (by omega) (by decide) (by decide)] at z ⊢
    rw [e' 135 x (by omega) (by decide) (by decide)]
    exact g2 x hx z
  · rw [e0] at hf
    rw [e _ l (by omega) (by omega) (by omega), e' 162 f (by omega) (by decide) (by decide), e' _ l (by omega) (by omega) (by omega)]
    exact g3 f hf l
  · rw [e0] at hx
    rw [e' 195 x (by omega) (by decide) (by decide), e 193 x (by omega) (by decide) (by decide), e 194 x (by omega) (by decide) (by decide)]
    exact g4 x hx
  · rw [e0] at hp
    rw [qfM_97, if_neg (by omega)]; exact g5 p hp
  · rw [e0] at hx
    rw [e' 133 x (by omega) (by decide) (by decide)]; exact g6 x hx
  · rw [e0] at hf
    exact ⟨by rw [e' 162 f (by omega) (by decide) (by decide)]; exact (g7 f hf).1, fun l => by rw [e' _ l (by omega) (by omega) (by omega)]; exact (g7 f hf).2 l⟩
theorem qdf_sym (P Q : Nat → Nat) : qdf P Q 3 = qdf Q P 3 := by
  rw [r_df3, r_df3, qB_c (ne_comm (a := P 0)), qB_c (ne_comm (a := P 1)), qB_c (ne_comm (a := P 2))]
theorem qdf_self2 (P : Nat → Nat) : qdf P P 3 = 0 := by
  rw [r_df3, qB_f (fun z => z rfl), qB_f (fun z => z rfl), qB_f (fun z => z rfl)]
/-- while patterns are merged: two that may be have the changed one among them -/
def zM (σ : QSt) (c s0 : Nat) : Prop := qWF σ ∧ c < σ 0 1 ∧ σ 97 c = 0 ∧ σ 96 c = s0 ∧ (∀ l, l < σ 0 0 → σ 97 (σ 68 l) = 0 ∧ σ 64 l = σ 96 (σ 68 l) ∧ qft (fun k => σ (112 + k) (σ 68 l)) (fun k => σ (80 + k) l)) ∧ (∀ p q, p < q → q < σ 0 1 → ∀ s, rMy σ s p q → p = c ∨ q = c) ∧ ∀ p, p < σ 0 1 → σ 97 p ≤ 1
def zlo (q c : Nat) : Nat := if q < c then q else c
def zhi (q c : Nat) : Nat := if q < c then c else q
theorem zM.first {σ : QSt} {c s0 q : Nat} (h : zM σ c s0) (hq : qpt σ c = some q) : rM1 σ s0 (zlo q c) (zhi q c) ∧ q ≠ c := by
  obtain ⟨hF, hc, h97, h96, hl, hp, h1⟩ := h
  obtain ⟨q1, ⟨q2, q3, q4⟩, q5⟩ := qpt_some hq
  have hne : q ≠ c := fun z => by rw [z, qdf_self2] at q4; exact absurd q4 (by decide)
  have hw1 : ∀ p, p < σ 0 1 → rMy σ s0 p c → ¬ p < q := fun p hp1 hm hlt => q5 p hlt ⟨hm.2.2.1, by rw [hm.1, h96], hm.2.2.2.2⟩
  have hw2 : ∀ p, p < σ 0 1 → rMy σ s0 c p → ¬ p < q := fun p hp1 hm hlt => q5 p hlt ⟨hm.2.2.2.1, by rw [hm.2.1, h96], by rw [qdf_sym]; exact hm.2.2.2.2⟩
  refine ⟨?_, hne⟩
  unfold zlo zhi
  by_cases d : q < c
  · rw [if_pos d, if_pos d]
    refine ⟨d, hc, ⟨q3.trans h96, h96, q2, h97, q4⟩, fun x y h2 h3 h4 h5 => ?_⟩
    rcases hp x y h2 h3 s0 h5 with z | z
    · subst z
      omega
    · subst z
      rcases h4 with h4 | ⟨h4, h6⟩
      · exact hw1 x (by omega) h5 h4
      · omega
  · rw [if_neg d, if_neg d]
    refine ⟨by omega, q1, ⟨h96, q3.trans h96, h97, q2, by rw [qdf_sym]; exact q4⟩, fun x y h2 h3 h4 h5 => ?_⟩
    rcases hp x y h2 h3 s0 h5 with z | z
    · subst z
      rcases h4 with h4 | ⟨h4, h6⟩
      · omega
      · exact hw2 y h3 h5 h6
    · subst z
      exact hw1 x (by omega) h5 (by omega)
theorem zM.none {σ : QSt} {c s0 : Nat} (h : zM σ c s0) (hq : qpt σ c = none) : ∀ p q, p < q → q < σ 0 1 → ∀ s, ¬ rMy σ s p q := by
  obtain ⟨hF, hc, h97, h96, hl, hp, h1⟩ := h
  have hn := qpt_is σ c
  rw [hq] at hn
  intro p q h2 h3 s h5
  rcases hp p q h2 h3 s h5 with z | z
  · subst z
    exact hn q h3 ⟨h5.2.2.2.1, by rw [h5.2.1, h5.1], by rw [qdf_sym]; exact h5.2.2.2.2⟩
  · subst z
    exact hn p (by omega) ⟨h5.2.2.1, by rw [h5.1, h5.2.1], h5.2.2.2.2⟩
theorem zM.step {σ : QSt} {c s0 q : Nat} (h : zM σ c s0) (hq : qpt σ c = some q) : zM (qfM σ (zlo q c) (zhi q c)) (zlo q c) s0 := by
  obtain ⟨⟨f1, f2, f3, f4⟩, hne⟩ := h.first hq
  have hcq : c = zlo q c ∨ c = zhi q c := by unfold zlo zhi; split <;> omega
  generalize zlo q c = a at f1 f2 f3 f4 hcq ⊢
  generalize zhi q c = b at f1 f2 f3 f4 hcq ⊢
  obtain ⟨hF, hc, h97, h96, hl, hp, h1⟩ := h
  obtain ⟨m1, m2, m3, m4, m5⟩ := f3
  have e : ∀ r j, r < 112 ∨ 115 ≤ r → r ≠ 68 → r ≠ 97 → qfM σ a b r j = σ r j := fun r j q1 q2 q3 => qfM_r q1 q2 q3
  have e0 : ∀ j, qfM σ a b 0 j = σ 0 j := fun j => e 0 j (by omega) (by decide) (by decide)
  have e96 : ∀ j, qfM σ a b 96 j = σ 96 j := fun j => e 96 j (by omega) (by decide) (by decide)
  have e64 : ∀ j, qfM σ a b 64 j = σ 64 j := fun j => e 64 j (by omega) (by decide) (by decide)
  refine ⟨qfM_wf hF (by omega), by rw [e0]; omega, by rw [qfM_97, if_neg (by omega)]; exact m3, by rw [e96]; exact m1, fun l hl2 => ?_, fun x y h2 h3 s h5 => ?_, fun p hp2 => ?_⟩
  · rw [e0] at hl2
    obtain ⟨k1, k2, k3⟩ := hl l hl2
    rw [qfM_68, e64]
    by_cases d : l < σ 0 0 ∧ σ 68 l = b
    · rw [if_pos d, qfM_97, if_neg (by omega), e96]
      rw [d.2] at k2 k3
      refine ⟨m3, by rw [k2, m1, m2], fun k hk => ?_⟩
      show qfM σ a b (112 + k) a = 0 ∨ qfM σ a b (112 + k) a = qfM σ a b (80 + k) l + 1
      rw [qfM_w hk, e (80 + k) l (by omega) (by omega) (by omega)]
      by_cases z : σ (112 + k) a = σ (112 + k) b
      · rw [if_neg (fun y => y.2 z), z]; exact k3 k hk
      · rw [if_pos ⟨rfl, z⟩]; exact Or.inl rfl
    · rw [if_neg d, qfM_97, if_neg (fun z => d ⟨hl2, z⟩), e96]
      refine ⟨k1, k2, fun k hk => ?_⟩
      show qfM σ a b (112 + k) (σ 68 l) = 0 ∨ qfM σ a b (112 + k) (σ 68 l) = qfM σ a b (80 + k) l + 1
      rw [qfM_w hk, e (80 + k) l (by omega) (by omega) (by omega)]
      by_cases z : σ 68 l = a ∧ σ (112 + k) a ≠ σ (112 + k) b
      · rw [if_pos z]; exact Or.inl rfl
      · rw [if_neg z]; exact k3 k hk
  · rw [e0] at h3
    refine Classical.byContradiction fun hno => ?_
    have hx : x ≠ a := fun z => hno (Or.inl z)
    have hy : y ≠ a := fun z => hno (Or.inr z)
    obtain ⟨n1, n2, n3, n4, n5⟩ := h5
    have hxb : x ≠ b := fun z => by rw [z, qfM_97, if_pos rfl] at n3; exact absurd n3 (by decide)
    have hyb : y ≠ b := fun z => by rw [z, qfM_97, if_pos rfl] at n4; exact absurd n4 (by decide)
    rw [qfM_97, if_neg hxb] at n3
    rw [qfM_97, if_neg hyb] at n4
    rw [e96] at n1 n2
    rw [qdf_congr (P := fun k => σ (112 + k) x) (Q := fun k => σ (112 + k) y) (fun k hk => by rw [qfM_w hk, if_neg (fun z => hx z.1)]) (fun k hk => by rw [qfM_w hk, if_neg (fun z => hy z.1)])] at n5
    rcases hp x y h2 h3 s ⟨n1, n2, n3, n4, n5⟩ with z | z
    · rcases hcq with y2 | y2
      · exact hx (z.trans y2)
      · exact hxb (z.trans y2)
    · rcases hcq with y2 | y2
      · exact hy (z.trans y2)
      · exact hyb (z.trans y2)
  · rw [e0] at hp2
    rw [qfM_97]
    split
    · exact Nat.le_refl 1
    · exact h1 p hp2
/-- how many patterns weren't merged -/
def zU (σ : QSt) : Nat := qsum (fun p => qB (σ 97 p = 0)) (σ 0 1)
theorem zU_step {σ : QSt} {a b : Nat} (hb : b < σ 0 1) (h : σ 97 b = 0) : zU (qfM σ a b) + 1 = zU σ := by
  have e0 : qfM σ a b 0 1 = σ 0 1 := qfM_r (by omega) (by decide) (by decide)
  unfold zU
  rw [e0]
  have hu := qsum_upd (f := fun p => qB (σ 97 p = 0)) (g := fun p => qB (qfM σ a b 97 p = 0)) (l0 := b) (fun p hp => by
    show qB (qfM σ a b 97 p = 0) = qB (σ 97 p = 0)
    rw [qfM_97, if_neg hp]) (σ 0 1) hb
  have hu2 : qsum (fun p => qB (qfM σ a b 97 p = 0)) (σ 0 1) + qB (σ 97 b = 0) = qsum (fun p => qB (σ 97 p = 0)) (σ 0 1) + qB (qfM σ a b 97 b = 0) := hu
  rw [qB_t h, qB_f (show ¬ qfM σ a b 97 b = 0 by rw [qfM_97, if_pos rfl]; decide)] at hu2
  exact hu2
/-- the reference's states -/
noncomputable def zMf (σ ρ : QSt) (c : Nat) : Nat → QSt
  | 0 => ρ
  | i + 1 => match qpt (qmI σ c i).1 (qmI σ c i).2 with
    | none => zMf σ ρ c i
    | some q => qfM (zMf σ ρ c i) (zlo q (qmI σ c i).2) (zhi q (qmI σ c i).2)
noncomputable def zMp (σ : QSt) (c i : Nat) : Nat := match qpt (qmI σ c i).1 (qmI σ c i).2 with
  | none => 0
  | some q => zlo q (qmI σ c i).2
noncomputable def zMq (σ : QSt) (c i : Nat) : Nat := match qpt (qmI σ c i).1 (qmI σ c i).2 with
  | none => 0
  | some q => zhi q (qmI σ c i).2
theorem qmI_some {σ : QSt} {c i q : Nat} (h : qpt (qmI σ c i).1 (qmI σ c i).2 = some q) : qmI σ c (i + 1) = (qfM (qmI σ c i).1 (zlo q (qmI σ c i).2) (zhi q (qmI σ c i).2), zlo q (qmI σ c i).2) := by
  unfold zlo zhi
  by_cases d : q < (qmI σ c i).2
  · rw [qmI_lt h d, if_pos d, if_pos d]
  · rw [qmI_ge h (by omega), if_neg d, if_neg d]
theorem zMs {σ ρ : QSt} {c s0 : Nat} (h : zM σ c s0) (hR : zRel σ ρ) : ∀ i, (∀ k, k < i → qpt (qmI σ c k).1 (qmI σ c k).2 ≠ none) → zM (qmI σ c i).1 (qmI σ c i).2 s0 ∧ zRel (qmI σ c i).1 (zMf σ ρ c i) ∧ zU (qmI σ c i).1 + i = zU σ
  | 0, _ => ⟨h, hR, rfl⟩
  | i + 1, hi => by
    obtain ⟨g1, g2, g3⟩ := zMs h hR i (fun k hk => hi k (by omega))
    cases hq : qpt (qmI σ c i).1 (qmI σ c i).2 with
    | none => exact absurd hq (hi i (Nat.lt_succ_self _))
    | some q =>
      have hst := g1.step hq
      obtain ⟨⟨f1, f2, f3, f4⟩, hne⟩ := g1.first hq
      have hf : zMf σ ρ c (i + 1) = qfM (zMf σ ρ c i) (zlo q (qmI σ c i).2) (zhi q (qmI σ c i).2) := by
        show (match qpt (qmI σ c i).1 (qmI σ c i).2 with | none => _ | some q => _) = _
        rw [hq]
      rw [qmI_some hq, hf]
      refine ⟨hst, g2.mg (by omega) f2, ?_⟩
      have := zU_step (a := zlo q (qmI σ c i).2) f2 f3.2.2.2.1
      show zU (qfM (qmI σ c i).1 (zlo q (qmI σ c i).2) (zhi q (qmI σ c i).2)) + (i + 1) = zU σ
      omega
theorem zM.U {σ : QSt} {c s0 : Nat} (h : zM σ c s0) : 1 ≤ zU σ ∧ zU σ ≤ σ 0 1 := by
  obtain ⟨hF, hc, h97, h96, hl, hp, h1⟩ := h
  constructor
  · have q1 := qsum_le1 (f := fun p => qB (σ 97 p = 0)) (l0 := c) (σ 0 1) hc
    have q2 : qB (σ 97 c = 0) = 1 := qB_t h97
    have q3 : qB (σ 97 c = 0) ≤ zU σ := q1
    omega
  · have := qsum_bound (f := fun p => qB (σ 97 p = 0)) (b := 1) (σ 0 1) (fun p _ => qB_le)
    unfold zU
    omega
theorem rM1.of {σ ρ : QSt} (hR : zRel σ ρ) {s0 a b : Nat} (h : rM1 σ s0 a b) : rM1 ρ s0 a b := by
  have key : ∀ p q, p < q → q < σ 0 1 → (rMy ρ s0 p q ↔ rMy σ s0 p q) := fun p q h1 h2 => by
    unfold rMy
    rw [hR.p (by omega) (l := p) (r := 96) (by omega), hR.p h2 (r := 96) (by omega), hR.p (by omega) (l := p) (r := 97) (by omega), hR.p h2 (r := 97) (by omega), qdf_congr (P := fun k => σ (112 + k) p) (Q := fun k => σ (112 + k) q) (fun k hk => hR.p (by omega) (by omega)) (fun k hk => hR.p h2 (by omega))]
  obtain ⟨h1, h2, h3, h4⟩ := h
  refine ⟨h1, by rw [hR.n (by decide)]; exact h2, (key a b h1 h2).mpr h3, fun p q g1 g2 g3 g4 => ?_⟩
  rw [hR.n (by decide)] at g2
  exact h4 p q g1 g2 g3 ((key p q g1 g2).mp g4)
theorem rM0.of {σ ρ : QSt} (hR : zRel σ ρ) {s0 : Nat} (h : ∀ p q, p < q → q < σ 0 1 → ¬ rMy σ s0 p q) : rM0 ρ s0 := by
  intro p q h1 h2 h3
  rw [hR.n (by decide)] at h2
  refine h p q h1 h2 ?_
  unfold rMy at h3
  rw [hR.p (by omega) (l := p) (r := 96) (by omega), hR.p h2 (r := 96) (by omega), hR.p (by omega) (l := p) (r := 97) (by omega), hR.p h2 (r := 97) (by omega), qdf_congr (P := fun k => σ (112 + k) p) (Q := fun k => σ (112 + k) q) (fun k hk => hR.p (by omega) (by omega)) (fun k hk => hR.p h2 (by omega))] at h3
  exact h3
/-- the merging, in both -/
theorem zMerge {σ ρ : QSt} {c s0 : Nat} (h : zM σ c s0) (hR : zRel σ ρ) : ∃ N, rTurns (zMf σ ρ c) (zMp σ c) (zMq σ c) N s0 ∧ zRel (qmI σ c (σ 0 1)).1 (zMf σ ρ c N) ∧ (∃ c2, zM (qmI σ c (σ 0 1)).1 c2 s0) ∧ ∀ p q, p < q → q < σ 0 1 → ∀ s, ¬ rMy (qmI σ c (σ 0 1)).1 s p q := by
  have hex : ∃ k, k < σ 0 1 ∧ qpt (qmI σ c k).1 (qmI σ c k).2 = none := by
    refine Classical.byContradiction fun hno => ?_
    obtain ⟨g1, g2, g3⟩ := zMs h hR (σ 0 1) (fun k hk z => hno ⟨k, hk, z⟩)
    have h1 := g1.U
    have h2 := h.U
    omega
  obtain ⟨N, ⟨n1, n2⟩, n3⟩ := pk_least (fun k => k < σ 0 1 ∧ qpt (qmI σ c k).1 (qmI σ c k).2 = none) hex
  have hno : ∀ k, k < N → qpt (qmI σ c k).1 (qmI σ c k).2 ≠ none := fun k hk z => n3 k hk ⟨by omega, z⟩
  obtain ⟨g1, g2, g3⟩ := zMs h hR N hno
  have hfin : qmI σ c (σ 0 1) = qmI σ c N := by
    have := qmI_stop n2 (σ 0 1 - N)
    rw [show N + (σ 0 1 - N) = σ 0 1 by omega] at this
    exact this
  have hc1 : (qmI σ c N).1 0 1 = σ 0 1 := by
    have := (qmI_ok h.1 h.2.1 N).2.2 0 1 (by omega) (by decide) (by decide)
    exact this
  have hum := g1.none n2
  refine ⟨N, ⟨fun i hi => ?_, ?_⟩, by rw [hfin]; exact g2, ⟨(qmI σ c N).2, by rw [hfin]; exact g1⟩, fun p q h1 h2 s => by rw [hfin]; exact hum p q h1 (by rw [hc1]; exact h2) s⟩
  · obtain ⟨k1, k2, k3⟩ := zMs h hR i (fun k hk => hno k (by omega))
    cases hq : qpt (qmI σ c i).1 (qmI σ c i).2 with
    | none => exact absurd hq (hno i hi)
    | some q =>
      have hf : zMf σ ρ c (i + 1) = qfM (zMf σ ρ c i) (zlo q (qmI σ c i).2) (zhi q (qmI σ c i).2) := by
        show (match qpt (qmI σ c i).1 (qmI σ c i).2 with | none => _ | some q => _) = _
        rw [hq]
      have hp : zMp σ c i = zlo q (qmI σ c i).2 := by unfold zMp; rw [hq]
      have hqq : zMq σ c i = zhi q (qmI σ c i).2 := by unfold zMq; rw [hq]
      rw [hp, hqq]
      exact ⟨(k1.first hq).1.of k2, hf⟩
  · exact rM0.of g2 (fun p q h1 h2 => hum p q h1 h2 s0)
