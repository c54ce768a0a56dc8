/-! lines are dropped -/
/-- guarded lines, in both -/
theorem zGd {σ ρ : QSt} (h : zIw σ (zκ σ)) (hR : zRel σ ρ) {l : Nat} (hl : l < σ 0 0) (h69 : σ 69 l = 107) : σ 70 l = 0 ↔ ¬ rgd ρ l := by
  have hF := h.wf
  have hg := h.ig.2.2.1 l hl
  have hd : ρ 69 l ≠ 100 := by rw [hR.l hl (r := 69) (by omega), h69]; decide
  constructor
  · intro z
    rintro ⟨⟨a, a1, a2⟩ | ⟨f, f1, f2⟩, -⟩
    · rw [hR.n (by decide)] at a1
      have h1 := qsum_le1 (f := fun a => zκ σ a l) (l0 := a) (σ 0 2) a1
      have h2 : zκ σ a l = 1 := qB_t ((hR.cn a1 hl (hF.plc a1)).mp a2)
      have h3 : zκ σ a l ≤ qsum (fun a => zκ σ a l) (σ 0 2) := h1
      omega
    · rw [hR.n (by decide)] at f1
      have h1 := qsum_le1 (f := fun f => qB (σ (1000 + f) l = 1)) (l0 := f) (σ 0 3) f1
      have h2 : qB (σ (1000 + f) l = 1) = 1 := qB_t ((hR.m f1 l).mpr f2)
      have h3 : qB (σ (1000 + f) l = 1) ≤ qsum (fun f => qB (σ (1000 + f) l = 1)) (σ 0 3) := h1
      omega
  · intro z
    have h1 : qsum (fun a => zκ σ a l) (σ 0 2) = 0 := qsum_zero _ (fun a ha => (qB_f (fun y => z ⟨Or.inl ⟨a, by rw [hR.n (by decide)]; exact ha, (hR.cn ha hl (hF.plc ha)).mpr y⟩, hd⟩) : zκ σ a l = 0))
    have h2 : qsum (fun f => qB (σ (1000 + f) l = 1)) (σ 0 3) = 0 := qsum_zero _ (fun f hf => qB_f (fun y => z ⟨Or.inr ⟨f, by rw [hR.n (by decide)]; exact hf, (hR.m hf l).mp y⟩, hd⟩))
    rw [hg, h1, h2]
theorem zNd {σ ρ : QSt} (h : zIw σ (zκ σ)) (hR : zRel σ ρ) (s0 : Nat) : ∀ n, n ≤ σ 0 0 → rnd ρ s0 n = (match qnd σ s0 n with | none => 0 | some k => k + 1)
  | 0, _ => rfl
  | n + 1, hn => by
    have ih := zNd h hR s0 n (by omega)
    have hl : n < σ 0 0 := by omega
    have e64 : ρ 64 n = σ 64 n := hR.l hl (by omega)
    have e69 : ρ 69 n = σ 69 n := hR.l hl (by omega)
    have e65 : ρ 65 n = σ 65 n := hR.l hl (by omega)
    have hg : σ 69 n = 107 → (σ 70 n = 0 ↔ ¬ rgd ρ n) := zGd h hR hl
    unfold qnd
    cases hq : qnd σ s0 n with
    | none =>
      rw [hq] at ih
      dsimp only at ih ⊢
      by_cases c : σ 64 n = s0 ∧ σ 69 n = 107 ∧ σ 70 n = 0
      · rw [if_pos c, rnd_t (by unfold rmay; rw [ih, e64, e69]; exact ⟨c.1, c.2.1, Or.inl rfl, (hg c.2.1).mp c.2.2⟩)]
      · rw [if_neg c, rnd_f (fun z => by unfold rmay at z; rw [e64, e69] at z; exact c ⟨z.1, z.2.1, (hg z.2.1).mpr z.2.2.2⟩), ih]
    | some k =>
      rw [hq] at ih
      dsimp only at ih ⊢
      have hk := qnd_lt σ s0 n k hq
      have e65k : ρ 65 k = σ 65 k := hR.l (by omega) (by omega)
      by_cases c : σ 64 n = s0 ∧ σ 69 n = 107 ∧ σ 70 n = 0 ∧ σ 65 n < σ 65 k
      · rw [if_pos c, rnd_t (by unfold rmay; rw [ih, e64, e69, Nat.add_sub_cancel, e65, e65k]; exact ⟨c.1, c.2.1, Or.inr c.2.2.2, (hg c.2.1).mp c.2.2.1⟩)]
      · rw [if_neg c, rnd_f (fun z => by
          unfold rmay at z
          rw [ih, e64, e69, Nat.add_sub_cancel, e65, e65k] at z
          exact c ⟨z.1, z.2.1, (hg z.2.1).mpr z.2.2.2, z.2.2.1.resolve_left (Nat.succ_ne_zero k)⟩), ih]
/-- one line dropped -/
theorem zIw.d1 {σ : QSt} (h : zIw σ (zκ σ)) {l0 : Nat} (hl0 : l0 < σ 0 0) (h0 : σ 70 l0 = 0) : zIw (qup σ 69 l0 100) (zκ (qup σ 69 l0 100)) := by
  obtain ⟨hF, ia, ig, iff_, ip, io⟩ := id h
  have e : ∀ r j, r ≠ 69 → qup σ 69 l0 100 r j = σ r j := fun r j hr => qup_k hr
  have hκ : ∀ a, a < σ 0 2 → zκ σ a l0 = 0 := fun a ha => by
    have h1 := qsum_le1 (f := fun a => zκ σ a l0) (l0 := a) (σ 0 2) ha
    have h2 : zκ σ a l0 ≤ qsum (fun a => zκ σ a l0) (σ 0 2) := h1
    have := ig.2.2.1 l0 hl0
    omega
  have hc : ∀ a l, a < σ 0 2 → l < σ 0 0 → zκ (qup σ 69 l0 100) a l = zκ σ a l := fun a l ha hl => by
    by_cases c : l = l0
    · subst c
      rw [hκ a ha]
      exact qB_f (fun z => z.1 (qup_s _ _ _ _))
    · exact qB_c (qcn_of (hF.plc ha) (e 1 0 (by decide)) (fun r _ hr2 => e r l hr2.1) (by rw [qup_j c]) (fun r hr => e r a (by omega)))
  have hw : zIw (qup σ 69 l0 100) (zκ σ) := by
    refine ⟨hF.up 69 l0 100 (by decide) (by decide) (by decide) (fun z => absurd z (by decide)) (fun _ => by decide) (fun z => absurd z (by decide)) (fun z => absurd z (by decide)), ?_, ?_, ?_, ?_, ?_⟩
    · exact ia.of (fun r j hr => e r j (by omega)) (fun j _ => ⟨e _ _ (by decide), e _ _ (by decide)⟩) hF
    · exact ig.of (fun r j hr => e r j (by omega))
    · exact iff_.of (fun r j hr => e r j (by omega))
    · exact ip.of (fun r j hr => e r j (by omega))
    · obtain ⟨o1, o2, o3, o4, o5, o6⟩ := io
      refine ⟨fun i j h1 h2 => ?_, fun l hl hd => ?_, fun l hl => ?_, fun x hx => ?_, fun j hj => ?_, ?_⟩
      · rw [e 67 i (by decide), e 67 j (by decide)]; exact o1 i j h1 h2
      · rw [e 70 l (by decide)]
        by_cases c : l = l0
        · rw [c]; exact h0
        · rw [qup_j c] at hd; exact o2 l hl hd
      · rw [e 65 l (by decide)]; exact o3 l hl
      · rw [e 193 x (by decide)]; exact o4 x hx
      · rw [e 16 j (by decide), e 0 j (by decide)]; exact o5 j hj
      · rw [e 1 0 (by decide)]; exact o6
  exact hw.cong (fun a l => qB_le) (fun a l ha hl => hc a l ha hl)
theorem zRel.d1 {σ ρ : QSt} (h : zRel σ ρ) (l0 : Nat) : zRel (qup σ 69 l0 100) (qup ρ 69 l0 100) := h.up 100 (by decide) (fun z => absurd z (by decide)) (fun z => absurd z (by decide))
theorem zRel.kept {σ ρ : QSt} (h : zRel σ ρ) (s0 : Nat) : qkept ρ s0 = qkept σ s0 := by
  unfold qkept
  rw [h.n (by decide)]
  refine qsum_congr _ (fun l hl => ?_)
  unfold qkp
  rw [h.l hl (r := 64) (by omega), h.l hl (r := 69) (by omega), h.l hl (r := 66) (by omega)]
/-- how many lines a source keeps -/
def zNk (σ : QSt) (s0 : Nat) : Nat := qsum (fun l => qB (σ 64 l = s0 ∧ σ 69 l = 107)) (σ 0 0)
theorem zNk_drop {σ : QSt} {s0 l : Nat} (hl : l < σ 0 0) (h1 : σ 64 l = s0) (h2 : σ 69 l = 107) : zNk (qup σ 69 l 100) s0 + 1 = zNk σ s0 := by
  have h := qsum_upd (f := fun l => qB (σ 64 l = s0 ∧ σ 69 l = 107)) (g := fun j => qB (qup σ 69 l 100 64 j = s0 ∧ qup σ 69 l 100 69 j = 107)) (l0 := l) (fun j hj => by
    show qB (qup σ 69 l 100 64 j = s0 ∧ qup σ 69 l 100 69 j = 107) = qB (σ 64 j = s0 ∧ σ 69 j = 107)
    rw [qup_k (by decide), qup_j hj]) (σ 0 0) hl
  have e1 : qB (σ 64 l = s0 ∧ σ 69 l = 107) = 1 := qB_t ⟨h1, h2⟩
  have e2 : qB (qup σ 69 l 100 64 l = s0 ∧ qup σ 69 l 100 69 l = 107) = 0 := qB_f (fun z => by rw [qup_s] at z; exact absurd z.2 (by decide))
  have h' : qsum (fun j => qB (qup σ 69 l 100 64 j = s0 ∧ qup σ 69 l 100 69 j = 107)) (σ 0 0) + qB (σ 64 l = s0 ∧ σ 69 l = 107) = qsum (fun l => qB (σ 64 l = s0 ∧ σ 69 l = 107)) (σ 0 0) + qB (qup σ 69 l 100 64 l = s0 ∧ qup σ 69 l 100 69 l = 107) := h
  rw [e1, e2] at h'
  exact h'
theorem zNk_0 {σ : QSt} {s0 : Nat} (h : zNk σ s0 = 0) : qkept σ s0 = 0 := by
  unfold qkept
  refine qsum_zero _ (fun l hl => ?_)
  unfold qkp
  refine if_neg (fun z => ?_)
  have h1 := qsum_le1 (f := fun l => qB (σ 64 l = s0 ∧ σ 69 l = 107)) (l0 := l) (σ 0 0) hl
  have h2 : qB (σ 64 l = s0 ∧ σ 69 l = 107) = 1 := qB_t z
  have h3 : qB (σ 64 l = s0 ∧ σ 69 l = 107) ≤ zNk σ s0 := h1
  omega
theorem rDs_shift (ρ : QSt) (s0 : Nat) : ∀ i, rDs ρ s0 (i + 1) = rDs (rDs ρ s0 1) s0 i
  | 0 => rfl
  | i + 1 => by
    show qup (rDs ρ s0 (i + 1)) 69 (rnd (rDs ρ s0 (i + 1)) s0 (rDs ρ s0 (i + 1) 0 0) - 1) 100 = qup (rDs (rDs ρ s0 1) s0 i) 69 (rnd (rDs (rDs ρ s0 1) s0 i) s0 (rDs (rDs ρ s0 1) s0 i 0 0) - 1) 100
    rw [rDs_shift ρ s0 i]
/-- a source looked at, in both -/
theorem zDrop (s0 : Nat) (hs0 : s0 < 4) : ∀ (n : Nat) (σ ρ : QSt), zIw σ (zκ σ) → zRel σ ρ → zNk σ s0 ≤ n → rDrp ρ s0 (qfLs σ s0 n).2 ∧ zRel (qfLs σ s0 n).1 (rDs ρ s0 (qfLs σ s0 n).2) ∧ zIw (qfLs σ s0 n).1 (zκ (qfLs σ s0 n).1)
  | 0, σ, ρ, h, hR, hn => by
    refine ⟨⟨fun i hi => absurd hi (Nat.not_lt_zero _), Or.inl ?_⟩, hR, h⟩
    show qkept ρ s0 ≤ ρ 48 s0
    rw [hR.kept, zNk_0 (by omega)]
    exact Nat.zero_le _
  | n + 1, σ, ρ, h, hR, hn => by
    have hb : ρ 48 s0 = σ 48 s0 := hR.b hs0
    have hk := hR.kept s0
    have h00 : ρ 0 0 = σ 0 0 := hR.n (by decide)
    have hd := zNd h hR s0 (σ 0 0) (Nat.le_refl _)
    by_cases c : σ 48 s0 < qkept σ s0
    · cases hq : qnd σ s0 (σ 0 0) with
      | none =>
        have e : qfLs σ s0 (n + 1) = (σ, 0) := by unfold qfLs; rw [if_pos c, hq]
        rw [e]
        rw [hq] at hd
        exact ⟨⟨fun i hi => absurd hi (Nat.not_lt_zero _), Or.inr (by show rnd ρ s0 (ρ 0 0) = 0; rw [h00]; exact hd)⟩, hR, h⟩
      | some l =>
        have hi := qnd_is σ s0 (σ 0 0) l hq
        have e : qfLs σ s0 (n + 1) = ((qfLs (qup σ 69 l 100) s0 n).1, (qfLs (qup σ 69 l 100) s0 n).2 + 1) := by
          show (if σ 48 s0 < qkept σ s0 then _ else _) = _
          rw [if_pos c, hq]
        rw [hq] at hd
        have hr1 : rDs ρ s0 1 = qup ρ 69 l 100 := by
          show qup ρ 69 (rnd ρ s0 (ρ 0 0) - 1) 100 = _
          rw [h00, hd, Nat.add_sub_cancel]
        have hnk := zNk_drop hi.1 hi.2.1 hi.2.2.1
        obtain ⟨i1, i2, i3⟩ := zDrop s0 hs0 n (qup σ 69 l 100) (qup ρ 69 l 100) (h.d1 hi.1 hi.2.2.2) (hR.d1 l) (by omega)
        rw [e]
        refine ⟨⟨fun i hi2 => ?_, ?_⟩, ?_, i3⟩
        · cases i with
          | zero =>
            refine ⟨by show ρ 48 s0 < qkept ρ s0; rw [hb, hk]; exact c, ?_⟩
            show rnd ρ s0 (ρ 0 0) ≠ 0
            rw [h00, hd]
            exact Nat.succ_ne_zero _
          | succ i => rw [rDs_shift, hr1]; exact i1.1 i (Nat.lt_of_succ_lt_succ hi2)
        · show qkept (rDs ρ s0 ((qfLs (qup σ 69 l 100) s0 n).2 + 1)) s0 ≤ rDs ρ s0 ((qfLs (qup σ 69 l 100) s0 n).2 + 1) 48 s0 ∨ rnd (rDs ρ s0 ((qfLs (qup σ 69 l 100) s0 n).2 + 1)) s0 (rDs ρ s0 ((qfLs (qup σ 69 l 100) s0 n).2 + 1) 0 0) = 0
          rw [rDs_shift, hr1]; exact i1.2
        · show zRel _ (rDs ρ s0 ((qfLs (qup σ 69 l 100) s0 n).2 + 1))
          rw [rDs_shift, hr1]; exact i2
    · have e : qfLs σ s0 (n + 1) = (σ, 0) := by unfold qfLs; rw [if_neg c]
      rw [e]
      exact ⟨⟨fun i hi => absurd hi (Nat.not_lt_zero _), Or.inl (by show qkept ρ s0 ≤ ρ 48 s0; rw [hb, hk]; omega)⟩, hR, h⟩
theorem zNk_le {σ : QSt} (h : qWF σ) (s0 : Nat) : zNk σ s0 ≤ 200 := Nat.le_trans (qsum_bound (b := 1) _ (fun l _ => qB_le)) (by have := h.n; omega)
/-- all sources looked at, in both -/
theorem zDropA {σ ρ : QSt} (h : zIw σ (zκ σ)) (hR : zRel σ ρ) : ∃ N : Nat → Nat, (∀ s0, s0 < 4 → rDrp (rDa ρ N s0) s0 (N s0)) ∧ zRel (qfAs σ 4).1 (rDa ρ N 4) ∧ zIw (qfAs σ 4).1 (zκ (qfAs σ 4).1) ∧ (qfAs σ 4).2 = N 0 + N 1 + N 2 + N 3 := by
  refine ⟨fun s0 => (qfLs (qfAs σ s0).1 s0 200).2, ?_⟩
  have key : ∀ i, i ≤ 4 → zRel (qfAs σ i).1 (rDa ρ (fun s0 => (qfLs (qfAs σ s0).1 s0 200).2) i) ∧ zIw (qfAs σ i).1 (zκ (qfAs σ i).1) := by
    intro i
    induction i with
    | zero => exact fun _ => ⟨hR, h⟩
    | succ i ih =>
      intro hi
      obtain ⟨g1, g2⟩ := ih (by omega)
      obtain ⟨k1, k2, k3⟩ := zDrop i (by omega) 200 _ _ g2 g1 (zNk_le g2.wf i)
      exact ⟨k2, k3⟩
  refine ⟨fun s0 hs => ?_, (key 4 (Nat.le_refl _)).1, (key 4 (Nat.le_refl _)).2, ?_⟩
  · obtain ⟨g1, g2⟩ := key s0 (by omega)
    exact (zDrop s0 hs 200 _ _ g2 g1 (zNk_le g2.wf s0)).1
  · show 0 + _ + _ + _ + _ = _
    rw [Nat.zero_add]
/-- dropping leaves the other rows -/
theorem zLs_r {σ : QSt} (h : qWF σ) {s0 n r j : Nat} (hr : r ≠ 69) : (qfLs σ s0 n).1 r j = σ r j := (qfLs_ok s0 n σ h).2.1 r j hr
