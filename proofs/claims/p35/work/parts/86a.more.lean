/-! what the law's property asks beyond zIv: a state of the reference beside each state of the store -/
def zcan (σ : QSt) : QSt := fun r j => if r = 135 then σ 134 j - 1 else if r = 195 then (if σ 193 j = 0 then 0 else σ 194 j + 1) else if (r = 97 ∧ σ 0 1 ≤ j) ∨ (r = 133 ∧ σ 0 2 ≤ j) ∨ (r = 162 ∧ σ 0 3 ≤ j) ∨ 1000 + σ 0 3 ≤ r then 0 else σ r j
theorem zcan_k {σ : QSt} {r j : Nat} (h1 : r ≠ 135) (h2 : r ≠ 195) (h3 : ¬ ((r = 97 ∧ σ 0 1 ≤ j) ∨ (r = 133 ∧ σ 0 2 ≤ j) ∨ (r = 162 ∧ σ 0 3 ≤ j) ∨ 1000 + σ 0 3 ≤ r)) : zcan σ r j = σ r j := by
  unfold zcan
  rw [if_neg h1, if_neg h2, if_neg h3]
theorem zcan_0 {σ : QSt} {r j : Nat} (h1 : r ≠ 135) (h2 : r ≠ 195) (h3 : (r = 97 ∧ σ 0 1 ≤ j) ∨ (r = 133 ∧ σ 0 2 ≤ j) ∨ (r = 162 ∧ σ 0 3 ≤ j) ∨ 1000 + σ 0 3 ≤ r) : zcan σ r j = 0 := by
  unfold zcan
  rw [if_neg h1, if_neg h2, if_pos h3]
theorem zRel_can {σ : QSt} (h : zIv σ) : zRel σ (zcan σ) := by
  have hF := h.1.wf
  have hf := h.1.2.2.2.1
  have hn := hF.n
  refine ⟨fun r j hd => ?_, fun a ha z => ?_, fun f hf1 l => ?_, fun x hx => ?_, fun p hp => ?_, fun a ha => ?_, fun f hf1 => ?_⟩
  · have q := hd.ne
    refine zcan_k (by omega) (by omega) ?_
    unfold zD at hd
    rcases hd with hd | hd | hd | ⟨hd, h2⟩ | ⟨hd, h2⟩ | ⟨hd, h2⟩ | ⟨hd, h2⟩ | ⟨hd, h2⟩ <;> omega
  · exact if_pos rfl
  · rw [zcan_k (r := 162) (by decide) (by decide) (by omega), zcan_k (r := 1000 + f) (by omega) (by omega) (by omega)]
    refine ⟨fun z => ⟨?_, z⟩, fun z => z.2⟩
    refine Classical.byContradiction fun c => (hf f hf1).2.2.2 c l z
  · exact (if_neg (by decide)).trans (if_pos rfl)
  · exact zcan_0 (by decide) (by decide) (Or.inl ⟨rfl, hp⟩)
  · exact zcan_0 (by decide) (by decide) (Or.inr (Or.inl ⟨rfl, ha⟩))
  · refine ⟨zcan_0 (by decide) (by decide) (Or.inr (Or.inr (Or.inl ⟨rfl, hf1⟩))), fun l => ?_⟩
    rw [zcan_0 (r := 1000 + f) (by omega) (by omega) (Or.inr (Or.inr (Or.inr (by omega))))]
    decide
/-! what a look at a source leaves -/
def qdr (σ : QSt) (s0 : Nat) : Nat := qsum (fun l => qB (σ 64 l = s0 ∧ σ 69 l = 100)) (σ 0 0)
def jB (σ : QSt) (s0 : Nat) : Prop := qkept σ s0 ≤ σ 48 s0 ∨ ∀ l, l < σ 0 0 → σ 64 l = s0 → σ 69 l = 107 → σ 70 l ≠ 0
theorem qfLs_st {σ : QSt} {s0 n : Nat} (h : ¬ σ 48 s0 < qkept σ s0 ∨ qnd σ s0 (σ 0 0) = none) : qfLs σ s0 (n + 1) = (σ, 0) := by
  by_cases c : σ 48 s0 < qkept σ s0
  · have hq := h.resolve_left (fun z => z c)
    unfold qfLs
    rw [if_pos c, hq]
  · unfold qfLs
    rw [if_neg c]
theorem qfLs_go {σ : QSt} {s0 n l : Nat} (c : σ 48 s0 < qkept σ s0) (hq : qnd σ s0 (σ 0 0) = some l) : qfLs σ s0 (n + 1) = ((qfLs (qup σ 69 l 100) s0 n).1, (qfLs (qup σ 69 l 100) s0 n).2 + 1) := by
  show (if σ 48 s0 < qkept σ s0 then _ else _) = _
  rw [if_pos c, hq]
theorem jLs_r (s0 : Nat) : ∀ (n : Nat) (σ : QSt) (r j : Nat), r ≠ 69 → (qfLs σ s0 n).1 r j = σ r j
  | 0, _, _, _, _ => rfl
  | n + 1, σ, r, j, hr => by
    by_cases c : σ 48 s0 < qkept σ s0
    · cases hq : qnd σ s0 (σ 0 0) with
      | none => rw [qfLs_st (Or.inr hq)]
      | some l =>
        rw [qfLs_go c hq]
        exact (jLs_r s0 n _ r j hr).trans (qup_k hr)
    · rw [qfLs_st (Or.inl c)]
theorem jLs_d (s0 : Nat) : ∀ (n : Nat) (σ : QSt) (l : Nat), (qfLs σ s0 n).1 69 l = σ 69 l ∨ (l < σ 0 0 ∧ σ 64 l = s0 ∧ σ 69 l = 107 ∧ σ 70 l = 0 ∧ (qfLs σ s0 n).1 69 l = 100)
  | 0, _, _ => Or.inl rfl
  | n + 1, σ, l => by
    by_cases c : σ 48 s0 < qkept σ s0
    · cases hq : qnd σ s0 (σ 0 0) with
      | none => rw [qfLs_st (Or.inr hq)]; exact Or.inl rfl
      | some k =>
        have hi := qnd_is σ s0 (σ 0 0) k hq
        rw [qfLs_go c hq]
        by_cases e : l = k
        · subst e
          refine Or.inr ⟨hi.1, hi.2.1, hi.2.2.1, hi.2.2.2, ?_⟩
          rcases jLs_d s0 n (qup σ 69 l 100) l with h | h
          · exact h.trans (qup_s _ _ _ _)
          · exact h.2.2.2.2
        · rcases jLs_d s0 n (qup σ 69 k 100) l with h | ⟨h1, h2, h3, h4, h5⟩
          · exact Or.inl (h.trans (qup_j e))
          · rw [qup_k (by decide)] at h1 h2 h4
            rw [qup_j e] at h3
            exact Or.inr ⟨h1, h2, h3, h4, h5⟩
    · rw [qfLs_st (Or.inl c)]; exact Or.inl rfl
theorem qnd_no (σ : QSt) (s0 : Nat) : ∀ n, qnd σ s0 n = none → ∀ l, l < n → ¬ (σ 64 l = s0 ∧ σ 69 l = 107 ∧ σ 70 l = 0)
  | 0, _, l, hl => absurd hl (Nat.not_lt_zero _)
  | n + 1, h, l, hl => by
    cases hq : qnd σ s0 n with
    | none =>
      have e : qnd σ s0 (n + 1) = (if σ 64 n = s0 ∧ σ 69 n = 107 ∧ σ 70 n = 0 then some n else none) := by
        show (match qnd σ s0 n with | none => _ | some k => _) = _
        rw [hq]
      rw [e] at h
      by_cases c : σ 64 n = s0 ∧ σ 69 n = 107 ∧ σ 70 n = 0
      · rw [if_pos c] at h; cases h
      · rcases Nat.lt_succ_iff_lt_or_eq.mp hl with z | z
        · exact qnd_no σ s0 n hq l z
        · rw [z]; exact c
    | some k =>
      have e : qnd σ s0 (n + 1) = (if σ 64 n = s0 ∧ σ 69 n = 107 ∧ σ 70 n = 0 ∧ σ 65 n < σ 65 k then some n else some k) := by
        show (match qnd σ s0 n with | none => _ | some k => _) = _
        rw [hq]
      rw [e] at h
      exfalso
      by_cases c : σ 64 n = s0 ∧ σ 69 n = 107 ∧ σ 70 n = 0 ∧ σ 65 n < σ 65 k
      · rw [if_pos c] at h; cases h
      · rw [if_neg c] at h; cases h
theorem jLs_b (s0 : Nat) : ∀ (n : Nat) (σ : QSt), zNk σ s0 ≤ n → jB (qfLs σ s0 n).1 s0
  | 0, σ, hn => Or.inl (by
    show qkept σ s0 ≤ σ 48 s0
    rw [zNk_0 (by omega)]
    exact Nat.zero_le _)
  | n + 1, σ, hn => by
    by_cases c : σ 48 s0 < qkept σ s0
    · cases hq : qnd σ s0 (σ 0 0) with
      | none => rw [qfLs_st (Or.inr hq)]; exact Or.inr (fun l hl h1 h2 h3 => qnd_no σ s0 _ hq l hl ⟨h1, h2, h3⟩)
      | some l =>
        have hi := qnd_is σ s0 (σ 0 0) l hq
        have hnk := zNk_drop hi.1 hi.2.1 hi.2.2.1
        rw [qfLs_go c hq]
        exact jLs_b s0 n (qup σ 69 l 100) (by omega)
    · rw [qfLs_st (Or.inl c)]; exact Or.inl (Nat.not_lt.mp c)
theorem qdr_drop {σ : QSt} {s0 l : Nat} (hl : l < σ 0 0) (h1 : σ 64 l = s0) (h2 : σ 69 l = 107) : qdr (qup σ 69 l 100) s0 = qdr σ s0 + 1 := by
  have h := qsum_upd (f := fun l => qB (σ 64 l = s0 ∧ σ 69 l = 100)) (g := fun j => qB (qup σ 69 l 100 64 j = s0 ∧ qup σ 69 l 100 69 j = 100)) (l0 := l) (fun j hj => by
    show qB (qup σ 69 l 100 64 j = s0 ∧ qup σ 69 l 100 69 j = 100) = qB (σ 64 j = s0 ∧ σ 69 j = 100)
    rw [qup_k (by decide), qup_j hj]) (σ 0 0) hl
  have e1 : qB (σ 64 l = s0 ∧ σ 69 l = 100) = 0 := qB_f (fun z => by rw [h2] at z; exact absurd z.2 (by decide))
  have e2 : qB (qup σ 69 l 100 64 l = s0 ∧ qup σ 69 l 100 69 l = 100) = 1 := qB_t ⟨by rw [qup_k (by decide)]; exact h1, qup_s _ _ _ _⟩
  have h' : qsum (fun j => qB (qup σ 69 l 100 64 j = s0 ∧ qup σ 69 l 100 69 j = 100)) (σ 0 0) + qB (σ 64 l = s0 ∧ σ 69 l = 100) = qsum (fun l => qB (σ 64 l = s0 ∧ σ 69 l = 100)) (σ 0 0) + qB (qup σ 69 l 100 64 l = s0 ∧ qup σ 69 l 100 69 l = 100) := h
  rw [e1, e2] at h'
  exact h'
theorem jLs_n (s0 : Nat) : ∀ (n : Nat) (σ : QSt), qdr (qfLs σ s0 n).1 s0 = qdr σ s0 + (qfLs σ s0 n).2
  | 0, _ => rfl
  | n + 1, σ => by
    by_cases c : σ 48 s0 < qkept σ s0
    · cases hq : qnd σ s0 (σ 0 0) with
      | none => rw [qfLs_st (Or.inr hq)]; rfl
      | some l =>
        have hi := qnd_is σ s0 (σ 0 0) l hq
        have h1 := jLs_n s0 n (qup σ 69 l 100)
        rw [qdr_drop hi.1 hi.2.1 hi.2.2.1] at h1
        rw [qfLs_go c hq]
        show qdr (qfLs (qup σ 69 l 100) s0 n).1 s0 = qdr σ s0 + ((qfLs (qup σ 69 l 100) s0 n).2 + 1)
        omega
    · rw [qfLs_st (Or.inl c)]; rfl
theorem jLs_o {s0 s1 : Nat} (h : s1 ≠ s0) (n : Nat) (σ : QSt) : qdr (qfLs σ s0 n).1 s1 = qdr σ s1 ∧ qkept (qfLs σ s0 n).1 s1 = qkept σ s1 := by
  unfold qdr qkept
  rw [jLs_r s0 n σ 0 0 (by decide)]
  refine ⟨qsum_congr _ (fun l _ => ?_), qsum_congr _ (fun l _ => ?_)⟩
  · rw [jLs_r s0 n σ 64 l (by decide)]
    rcases jLs_d s0 n σ l with e | ⟨_, e, _⟩
    · rw [e]
    · rw [qB_f (fun z => h (z.1.symm.trans e)), qB_f (fun z => h (z.1.symm.trans e))]
  · unfold qkp
    rw [jLs_r s0 n σ 64 l (by decide), jLs_r s0 n σ 66 l (by decide)]
    rcases jLs_d s0 n σ l with e | ⟨_, e, _⟩
    · rw [e]
    · rw [if_neg (fun z => h (z.1.symm.trans e)), if_neg (fun z => h (z.1.symm.trans e))]
theorem jB.ls {σ : QSt} {s0 s1 : Nat} (h : s1 ≠ s0) (hb : jB σ s1) (n : Nat) : jB (qfLs σ s0 n).1 s1 := by
  unfold jB
  rw [(jLs_o h n σ).2, jLs_r s0 n σ 48 s1 (by decide), jLs_r s0 n σ 0 0 (by decide)]
  rcases hb with hb | hb
  · exact Or.inl hb
  · refine Or.inr (fun l hl h1 h2 => ?_)
    rw [jLs_r s0 n σ 64 l (by decide)] at h1
    rw [jLs_r s0 n σ 70 l (by decide)]
    rcases jLs_d s0 n σ l with e | ⟨_, e, _⟩
    · rw [e] at h2; exact hb l hl h1 h2
    · exact absurd (h1.symm.trans e) h
/-- one source is looked at, the others were -/
theorem jLook1 {X : QSt} (hF : qWF X) (s0 : Nat) (hb : ∀ s1, s1 < 4 → s1 ≠ s0 → jB X s1) : ∀ s1, s1 < 4 → jB (qfLs X s0 200).1 s1 := fun s1 hs => by
  by_cases c : s1 = s0
  · rw [c]; exact jLs_b s0 200 X (zNk_le hF s0)
  · exact jB.ls c (hb s1 hs c) 200
def qds (σ : QSt) : Nat := qdr σ 0 + qdr σ 1 + qdr σ 2 + qdr σ 3
theorem jLs_s {s0 : Nat} (hs : s0 < 4) (n : Nat) (σ : QSt) : qds (qfLs σ s0 n).1 = qds σ + (qfLs σ s0 n).2 := by
  have h := jLs_n s0 n σ
  unfold qds
  rcases (show s0 = 0 ∨ s0 = 1 ∨ s0 = 2 ∨ s0 = 3 by omega) with rfl | rfl | rfl | rfl
  · rw [h, (jLs_o (show 1 ≠ 0 by decide) n σ).1, (jLs_o (show 2 ≠ 0 by decide) n σ).1, (jLs_o (show 3 ≠ 0 by decide) n σ).1]; omega
  · rw [h, (jLs_o (show 0 ≠ 1 by decide) n σ).1, (jLs_o (show 2 ≠ 1 by decide) n σ).1, (jLs_o (show 3 ≠ 1 by decide) n σ).1]; omega
  · rw [h, (jLs_o (show 0 ≠ 2 by decide) n σ).1, (jLs_o (show 1 ≠ 2 by decide) n σ).1, (jLs_o (show 3 ≠ 2 by decide) n σ).1]; omega
  · rw [h, (jLs_o (show 0 ≠ 3 by decide) n σ).1, (jLs_o (show 1 ≠ 3 by decide) n σ).1, (jLs_o (show 2 ≠ 3 by decide) n σ).1]; omega
/-- all sources are looked at -/
theorem jAs {X : QSt} (hF : qWF X) : ∀ i, i ≤ 4 → (∀ s1, s1 < i → jB (qfAs X i).1 s1) ∧ qds (qfAs X i).1 = qds X + (qfAs X i).2 ∧ ∀ r j, r ≠ 69 → (qfAs X i).1 r j = X r j
  | 0, _ => ⟨fun s1 h => absurd h (Nat.not_lt_zero _), rfl, fun _ _ _ => rfl⟩
  | i + 1, hi => by
    obtain ⟨h1, h2, h3⟩ := jAs hF i (by omega)
    have hW := (qfAs_ok hF i).1
    refine ⟨fun s1 hs => ?_, ?_, fun r j hr => (jLs_r i 200 _ r j hr).trans (h3 r j hr)⟩
    · by_cases c : s1 = i
      · rw [c]; exact jLs_b i 200 _ (zNk_le hW i)
      · exact jB.ls c (h1 s1 (by omega)) 200
    · show qds (qfLs (qfAs X i).1 i 200).1 = qds X + ((qfAs X i).2 + (qfLs (qfAs X i).1 i 200).2)
      rw [jLs_s (by omega), h2]
      omega
/-! guards grow as alerts look -/
theorem jCd_70 (σ : QSt) (a l0 l : Nat) : σ 70 l ≤ qfCd σ a l0 70 l := by
  unfold qfCd
  split
  · by_cases c : l = l0
    · rw [c, qup_s]; exact Nat.le_succ _
    · rw [qup_j c, qup_k (by decide)]; exact Nat.le_refl _
  · exact Nat.le_refl _
theorem jSt_70 (σ : QSt) (a f l : Nat) : σ 70 l ≤ qfSt σ a f 70 l := by
  rw [zSt_70]; exact Nat.le_add_right _ _
theorem jLook_70 (σ : QSt) (a l : Nat) : σ 70 l ≤ qLook σ a 70 l := by
  by_cases c : qNew σ a
  · rw [qLook_t c]
    unfold qfLn
    refine Nat.le_trans (Nat.le_of_eq ?_) (jSt_70 _ _ _ _)
    rw [qup_k (by decide), qup_k (by decide), qfNf_r (by omega) (by omega) (by omega) (by omega)]
  · rw [qLook_f c]
    unfold qfLk
    split
    · refine Nat.le_trans (Nat.le_of_eq ?_) (jSt_70 _ _ _ _)
      rw [qup_k (by decide), qup_k (by decide)]
    · split
      · rw [qup_k (by decide), qup_k (by decide)]; exact Nat.le_refl _
      · exact Nat.le_refl _
theorem jSa_70 (σ : QSt) (l0 l : Nat) : ∀ i, σ 70 l ≤ qfSa σ l0 i 70 l
  | 0 => Nat.le_refl _
  | i + 1 => Nat.le_trans (jSa_70 σ l0 l i) (Nat.le_trans (jCd_70 _ _ _ _) (jLook_70 _ _ _))
theorem jCa_70 (σ : QSt) (a l : Nat) : ∀ i, σ 70 l ≤ qfCa σ a i 70 l
  | 0 => Nat.le_refl _
  | i + 1 => Nat.le_trans (jCa_70 σ a l i) (jCd_70 _ _ _ _)
/-- a source that was looked at stays so where its kept lines are the same and guards grow -/
theorem jB.up {σ τ : QSt} {s0 : Nat} (h : jB σ s0) (hb : τ 48 s0 = σ 48 s0) (hk : qkept τ s0 ≤ qkept σ s0) (hl : ∀ l, l < τ 0 0 → τ 64 l = s0 → τ 69 l = 107 → l < σ 0 0 ∧ σ 64 l = s0 ∧ σ 69 l = 107 ∧ σ 70 l ≤ τ 70 l) : jB τ s0 := by
  rcases h with h | h
  · exact Or.inl (by rw [hb]; exact Nat.le_trans hk h)
  · refine Or.inr (fun l h0 h1 h2 => ?_)
    obtain ⟨g0, g1, g2, g3⟩ := hl l h0 h1 h2
    have := h l g0 g1 g2
    omega
/-! what alerts are held for, and when firings began -/
def jA (σ : QSt) : Prop := (∀ a, a < σ 0 2 → σ 133 a ≤ σ 130 a) ∧ ∀ f, f < σ 0 3 → σ 161 f ≤ σ 1 0
theorem jA.of {σ τ : QSt} (h : jA σ) (h2 : τ 0 2 = σ 0 2) (h3 : τ 0 3 = σ 0 3) (h133 : ∀ a, τ 133 a ≤ σ 133 a) (h130 : ∀ a, τ 130 a = σ 130 a) (h161 : ∀ f, τ 161 f = σ 161 f) (h1 : σ 1 0 ≤ τ 1 0) : jA τ := by
  refine ⟨fun a ha => ?_, fun f hf => ?_⟩
  · rw [h2] at ha; rw [h130]; exact Nat.le_trans (h133 a) (h.1 a ha)
  · rw [h3] at hf; rw [h161]; exact Nat.le_trans (h.2 f hf) h1
theorem jLook_133 (σ : QSt) (a x : Nat) : qLook σ a 133 x = σ 133 x ∨ qLook σ a 133 x = 0 ∨ qLook σ a 133 x = σ 130 x := by
  by_cases e : x = a
  · subst e
    by_cases c : qNew σ x
    · rw [qLook_t c]
      unfold qfLn
      rw [zSt_r (by decide) (by decide) (by omega), qup_s]
      exact Or.inr (Or.inl rfl)
    · rw [qLook_f c]
      unfold qfLk
      split
      · rw [zSt_r (by decide) (by decide) (by omega), qup_s]
        exact Or.inr (Or.inl rfl)
      · split
        · rw [qup_s]; exact Or.inr (Or.inr rfl)
        · exact Or.inl rfl
  · exact Or.inl (zLook_s (Or.inr rfl) e)
theorem jLook_161 (σ : QSt) (a : Nat) : ∀ f, qLook σ a 161 f = σ 161 f ∨ (f = σ 0 3 ∧ qLook σ a 161 f = σ 1 0) := fun f => by
  by_cases c : qNew σ a
  · rw [qLook_t c, qfLn_lo (by decide) (by decide) (by decide) (by decide) (by decide)]
    by_cases e : f = σ 0 3
    · rw [e]; exact Or.inr ⟨rfl, zNf_f rfl ⟨by decide, by decide, by decide⟩⟩
    · exact Or.inl (qfNf_r (by omega) (by omega) (by omega) (by omega))
  · rw [qLook_f c, qfLk_lo (by decide) (by decide) (by decide) (by decide) (by decide)]
    exact Or.inl rfl
theorem jLook_1 (σ : QSt) (a : Nat) : qLook σ a 1 0 = σ 1 0 := zLook_r (by decide) (by decide) (by decide) (by decide) (by decide) (by decide) (by decide) (by decide) (by decide) (by decide)
theorem jA.look {σ : QSt} (h : jA σ) (a : Nat) : jA (qLook σ a) := by
  refine ⟨fun x hx => ?_, fun f hf => ?_⟩
  · rw [qLook_0 (by decide)] at hx
    rw [zLook_r (r := 130) (by decide) (by decide) (by decide) (by decide) (by decide) (by decide) (by decide) (by decide) (by decide) (by decide)]
    have := h.1 x hx
    rcases jLook_133 σ a x with e | e | e <;> omega
  · rw [qLook_03] at hf
    rw [jLook_1]
    rcases jLook_161 σ a f with e | ⟨_, e⟩
    · rw [e]
      by_cases c : f < σ 0 3
      · exact h.2 f c
      · have hq : qNew σ a := r_un (fun z => by omega)
        have e2 : f = σ 0 3 := by have := qB_le (p := qNew σ a); omega
        have e3 : qLook σ a 161 f = σ 1 0 := by
          rw [qLook_t hq, qfLn_lo (by decide) (by decide) (by decide) (by decide) (by decide), e2]
          exact zNf_f rfl ⟨by decide, by decide, by decide⟩
        exact Nat.le_of_eq (e.symm.trans e3)
    · exact Nat.le_of_eq e
theorem jA.cd {σ : QSt} (h : jA σ) (a l0 : Nat) : jA (qfCd σ a l0) := h.of (qfCd_r (by decide) (by decide)) (qfCd_r (by decide) (by decide)) (fun _ => Nat.le_of_eq (qfCd_r (by decide) (by decide))) (fun _ => qfCd_r (by decide) (by decide)) (fun _ => qfCd_r (by decide) (by decide)) (Nat.le_of_eq (qfCd_r (by decide) (by decide)).symm)
theorem jA.sa {σ : QSt} (h : jA σ) (l0 : Nat) : ∀ i, jA (qfSa σ l0 i)
  | 0 => h
  | i + 1 => ((jA.sa h l0 i).cd i l0).look i
theorem jA.ca {σ : QSt} (h : jA σ) (a : Nat) : ∀ i, jA (qfCa σ a i)
  | 0 => h
  | i + 1 => (jA.ca h a i).cd a i
theorem jA.ls {σ : QSt} (h : jA σ) (s0 n : Nat) : jA (qfLs σ s0 n).1 := h.of (jLs_r _ _ _ _ _ (by decide)) (jLs_r _ _ _ _ _ (by decide)) (fun _ => Nat.le_of_eq (jLs_r _ _ _ _ _ (by decide))) (fun _ => jLs_r _ _ _ _ _ (by decide)) (fun _ => jLs_r _ _ _ _ _ (by decide)) (Nat.le_of_eq (jLs_r _ _ _ _ _ (by decide)).symm)
theorem jA.as {σ : QSt} (h : jA σ) : ∀ i, jA (qfAs σ i).1
  | 0 => h
  | i + 1 => (jA.as h i).ls i 200
theorem jSh_133 (σ : QSt) (a x : Nat) : qfSh σ a 133 x ≤ σ 133 x := by
  unfold qfSh
  split
  · split
    · by_cases c : x = a
      · rw [c, qup_s]; exact Nat.sub_le _ _
      · rw [qup_j c]; exact Nat.le_refl _
    · rw [qup_k (by decide)]
      by_cases c : x = a
      · rw [c, qup_s]; exact Nat.zero_le _
      · rw [qup_j c]; exact Nat.le_refl _
  · exact Nat.le_refl _
theorem qfFl_r {σ : QSt} {a r j : Nat} (h1 : r ≠ 70) (h2 : r ≠ 132) : qfFl σ a r j = σ r j := qfFlS_r σ a 0 j h1 h2
theorem jA.ta {σ : QSt} (h : jA σ) (a : Nat) : jA (qfTa σ a) := by
  have e : ∀ r j, r ≠ 70 → r ≠ 132 → r ≠ 131 → r ≠ 133 → qfTa σ a r j = σ r j := fun r j h1 h2 h3 h4 => (qfSh_r h3 h4).trans (qfFl_r h1 h2)
  refine h.of (e 0 2 (by decide) (by decide) (by decide) (by decide)) (e 0 3 (by decide) (by decide) (by decide) (by decide)) (fun x => ?_) (fun x => e 130 x (by decide) (by decide) (by decide) (by decide)) (fun f => e 161 f (by decide) (by decide) (by decide) (by decide)) (Nat.le_of_eq (e 1 0 (by decide) (by decide) (by decide) (by decide)).symm)
  exact Nat.le_trans (jSh_133 (qfFl σ a) a x) (Nat.le_of_eq (qfFl_r (by decide) (by decide)))
theorem jA.tk {σ : QSt} (h : jA σ) : ∀ i, jA (qfTk σ i)
  | 0 => h.of (zNow_r (by decide)) (zNow_r (by decide)) (fun _ => Nat.le_of_eq (zNow_r (by decide))) (fun _ => zNow_r (by decide)) (fun _ => zNow_r (by decide)) (by show σ 1 0 ≤ qup σ 1 0 (σ 1 0 + 1) 1 0; rw [qup_s]; exact Nat.le_succ _)
  | i + 1 => ((jA.tk h i).ta i).look i
theorem qfAr_r {σ : QSt} {r j : Nat} (h1 : r ≠ 193) (h2 : r ≠ 194) : qfAr σ r j = σ r j := qfArS_r σ (σ 0 4) j h1 h2
theorem jA.ar {σ : QSt} (h : jA σ) : jA (qfAr σ) := h.of (qfAr_r (by decide) (by decide)) (qfAr_r (by decide) (by decide)) (fun _ => Nat.le_of_eq (qfAr_r (by decide) (by decide))) (fun _ => qfAr_r (by decide) (by decide)) (fun _ => qfAr_r (by decide) (by decide)) (Nat.le_of_eq (qfAr_r (by decide) (by decide)).symm)
/-! each pattern that was not merged has a line -/
def jL (σ : QSt) : Prop := ∀ p, p < σ 0 1 → σ 97 p = 0 → ∃ l, l < σ 0 0 ∧ σ 68 l = p
theorem jL.of {σ τ : QSt} (h : jL σ) (h1 : τ 0 1 = σ 0 1) (h0 : σ 0 0 ≤ τ 0 0) (h97 : ∀ p, τ 97 p = σ 97 p) (h68 : ∀ l, l < σ 0 0 → τ 68 l = σ 68 l) : jL τ := fun p hp hm => by
  rw [h1] at hp
  rw [h97] at hm
  obtain ⟨l, hl, e⟩ := h p hp hm
  exact ⟨l, Nat.lt_of_lt_of_le hl h0, (h68 l hl).trans e⟩
theorem jL.mg {σ : QSt} (h : jL σ) (a b : Nat) : jL (qfM σ a b) := fun p hp hm => by
  rw [qfM_r (by omega) (by decide) (by decide)] at hp
  rw [qfM_97] at hm
  by_cases c : p = b
  · rw [if_pos c] at hm; exact absurd hm (by decide)
  · rw [if_neg c] at hm
    obtain ⟨l, hl, e⟩ := h p hp hm
    refine ⟨l, by rw [qfM_r (by omega) (by decide) (by decide)]; exact hl, ?_⟩
    rw [qfM_68, if_neg (fun z => c (e.symm.trans z.2))]
    exact e
theorem jL.mi {σ : QSt} (h : jL σ) (c : Nat) : ∀ i, jL (qmI σ c i).1
  | 0 => h
  | i + 1 => by
    cases hq : qpt (qmI σ c i).1 (qmI σ c i).2 with
    | none => rw [qmI_none hq]; exact jL.mi h c i
    | some q => rw [qmI_some hq]; exact (jL.mi h c i).mg _ _
