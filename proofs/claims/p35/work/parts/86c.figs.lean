/-! figures that the law finds anew -/
theorem qsum_comm (f : Nat → Nat → Nat) (n : Nat) : ∀ m, qsum (fun i => qsum (fun j => f i j) n) m = qsum (fun j => qsum (fun i => f i j) m) n
  | 0 => by rw [qsum]; exact (qsum_zero n (fun j _ => rfl)).symm
  | m + 1 => by
    rw [qsum, qsum_comm f n m, ← qsum_add]
    exact qsum_congr n (fun j _ => rfl)
theorem qsum_one {f : Nat → Nat} {i0 : Nat} : ∀ n, i0 < n → (∀ i, i < n → i ≠ i0 → f i = 0) → qsum f n = f i0
  | 0, h, _ => absurd h (Nat.not_lt_zero _)
  | n + 1, h, h0 => by
    rw [qsum]
    by_cases c : i0 = n
    · subst c
      rw [qsum_zero i0 (fun i hi => h0 i (by omega) (by omega)), Nat.zero_add]
    · rw [qsum_one n (by omega) (fun i hi => h0 i (by omega)), h0 n (by omega) (fun z => c z.symm), Nat.add_zero]
theorem qsum_more {f : Nat → Nat} {n : Nat} : ∀ d, (∀ i, n ≤ i → f i = 0) → qsum f (n + d) = qsum f n
  | 0, _ => rfl
  | d + 1, h => by
    show qsum f (n + d) + f (n + d) = _
    rw [qsum_more d h, h _ (by omega), Nat.add_zero]
def jN (σ : QSt) (p : Nat) : Nat := qsum (fun l => qB (σ 68 l = p)) (σ 0 0)
def jQ (σ : QSt) (p : Nat) : Nat := if σ 97 p = 0 then jN σ p else 0
def jV (σ : QSt) (p k : Nat) : Nat := qsum (qVF σ p k (σ 0 0)) 100
def jWd (σ : QSt) (p k : Nat) : Int32 := if σ 97 p = 0 then nI (σ (112 + k) p) - 1 else -10 - nI p
theorem jN_le (σ : QSt) (p : Nat) : jN σ p ≤ σ 0 0 := by
  have h := qsum_bound (f := fun l => qB (σ 68 l = p)) (b := 1) (σ 0 0) (fun _ _ => qB_le)
  unfold jN
  omega
theorem jN_pos {σ : QSt} {l : Nat} (hl : l < σ 0 0) : 1 ≤ jN σ (σ 68 l) := by
  have h := qsum_le1 (f := fun j => qB (σ 68 j = σ 68 l)) (l0 := l) (σ 0 0) hl
  have h1 : qB (σ 68 l = σ 68 l) = 1 := qB_t rfl
  have h2 : qB (σ 68 l = σ 68 l) ≤ jN σ (σ 68 l) := h
  omega
theorem jV_le {σ : QSt} (p k : Nat) : jV σ p k ≤ jN σ p := by
  have h1 : jV σ p k ≤ qsum (fun x => qsum (fun l => qB (σ 68 l = p ∧ σ (80 + k) l = x)) (σ 0 0)) 100 := qsum_le_of _ (fun x _ => by
    show qB (0 < qsum (fun l => qB (σ 68 l = p ∧ σ (80 + k) l = x)) (σ 0 0)) ≤ qsum (fun l => qB (σ 68 l = p ∧ σ (80 + k) l = x)) (σ 0 0)
    by_cases c : 0 < qsum (fun l => qB (σ 68 l = p ∧ σ (80 + k) l = x)) (σ 0 0)
    · rw [qB_t c]; exact c
    · rw [qB_f c]; exact Nat.zero_le _)
  rw [qsum_comm] at h1
  refine Nat.le_trans h1 (qsum_le_of _ (fun l _ => ?_))
  by_cases c : σ 68 l = p
  · rw [qB_t c]
    by_cases d : σ (80 + k) l < 100
    · rw [qsum_one (f := fun x => qB (σ 68 l = p ∧ σ (80 + k) l = x)) (i0 := σ (80 + k) l) 100 d (fun x _ hx => qB_f (fun z => hx z.2.symm))]
      exact qB_le
    · rw [qsum_zero 100 (fun x hx => qB_f (fun z => by omega))]
      exact Nat.zero_le _
  · rw [qB_f c]
    exact Nat.le_of_eq (qsum_zero 100 (fun x _ => qB_f (fun z => c z.1)))
theorem jV_pos {σ : QSt} (hF : qWF σ) {l k : Nat} (hl : l < σ 0 0) (hk : k < 3) : 1 ≤ jV σ (σ 68 l) k := by
  have hw := hF.lwd hl hk
  have h := qsum_le1 (f := qVF σ (σ 68 l) k (σ 0 0)) (l0 := σ (80 + k) l) 100 hw
  have h1 := qsum_le1 (f := fun j => qB (σ 68 j = σ 68 l ∧ σ (80 + k) j = σ (80 + k) l)) (l0 := l) (σ 0 0) hl
  have h2 : qB (σ 68 l = σ 68 l ∧ σ (80 + k) l = σ (80 + k) l) = 1 := qB_t ⟨rfl, rfl⟩
  have h3 : qB (σ 68 l = σ 68 l ∧ σ (80 + k) l = σ (80 + k) l) ≤ qsum (fun j => qB (σ 68 j = σ 68 l ∧ σ (80 + k) j = σ (80 + k) l)) (σ 0 0) := h1
  have h4 : qVF σ (σ 68 l) k (σ 0 0) (σ (80 + k) l) = 1 := qB_t (by omega)
  have h5 : qVF σ (σ 68 l) k (σ 0 0) (σ (80 + k) l) ≤ jV σ (σ 68 l) k := h
  omega
theorem jV_one {σ : QSt} (hv : zIv σ) {l k : Nat} (hl : l < σ 0 0) (hk : k < 3) (hw : σ (112 + k) (σ 68 l) ≠ 0) : jV σ (σ 68 l) k = 1 := by
  have key : ∀ j, j < σ 0 0 → σ 68 j = σ 68 l → σ (80 + k) j + 1 = σ (112 + k) (σ 68 l) := fun j hj e => by
    have q := (hv.1.ip.2.1 j hj).2.2 k hk
    have q2 : σ (112 + k) (σ 68 j) = 0 ∨ σ (112 + k) (σ 68 j) = σ (80 + k) j + 1 := q
    rw [e] at q2
    exact (q2.resolve_left hw).symm
  have hw9 := hv.1.wf.lwd hl hk
  have e1 : jV σ (σ 68 l) k = qVF σ (σ 68 l) k (σ 0 0) (σ (80 + k) l) := qsum_one (f := qVF σ (σ 68 l) k (σ 0 0)) (i0 := σ (80 + k) l) 100 hw9 (fun x _ hx => by
    show qB (0 < qsum (fun j => qB (σ 68 j = σ 68 l ∧ σ (80 + k) j = x)) (σ 0 0)) = 0
    refine qB_f (fun z => ?_)
    rw [qsum_zero _ (fun j hj => qB_f (fun y => hx (by have h1 := key j hj y.1; have h2 := key l hl rfl; omega)))] at z
    exact absurd z (Nat.lt_irrefl _))
  have h := jV_pos hv.1.wf hl hk
  have h2 : qVF σ (σ 68 l) k (σ 0 0) (σ (80 + k) l) ≤ 1 := qB_le
  omega
/-- what a pattern that was not merged has -/
theorem jPat {σ : QSt} (hv : zIv σ) (hj : jI σ) {p : Nat} (hp : p < σ 0 1) (hm : σ 97 p = 0) : 1 ≤ jN σ p ∧ σ 96 p < 4 ∧ ∀ k, k < 3 → 1 ≤ jV σ p k ∧ jV σ p k ≤ jN σ p ∧ (σ (112 + k) p ≠ 0 → jV σ p k = 1) := by
  obtain ⟨l, hl, e⟩ := hj.2.2.1 p hp hm
  subst e
  have hs := (hv.1.ip.2.1 l hl).2.1
  have h4 := hj.2.2.2 l hl
  exact ⟨jN_pos hl, by omega, fun k hk => ⟨jV_pos hv.1.wf hl hk, jV_le _ _, fun hw => jV_one hv hl hk hw⟩⟩
/-- each line belongs to one pattern -/
theorem jQ_all {σ : QSt} (hv : zIv σ) {n : Nat} (hn : ∀ l, l < σ 0 0 → σ 68 l < n) : qsum (jQ σ) n = σ 0 0 := by
  have h1 : qsum (jQ σ) n = qsum (fun p => qsum (fun l => qB (σ 68 l = p)) (σ 0 0)) n := qsum_congr n (fun p hp => by
    show jQ σ p = jN σ p
    unfold jQ
    by_cases c : σ 97 p = 0
    · rw [if_pos c]
    · rw [if_neg c]
      refine (qsum_zero _ (fun l hl => qB_f (fun z => c ?_))).symm
      rw [← z]; exact (hv.1.ip.2.1 l hl).1)
  rw [h1, qsum_comm]
  have h2 : ∀ m, m ≤ σ 0 0 → qsum (fun l => qsum (fun p => qB (σ 68 l = p)) n) m = m := by
    intro m
    induction m with
    | zero => intro _; rfl
    | succ m ih =>
      intro hm
      rw [qsum, ih (by omega), qsum_one (f := fun p => qB (σ 68 m = p)) (i0 := σ 68 m) n (hn m (by omega)) (fun p _ hp => qB_f (fun z => hp z.symm)), qB_t rfl]
  exact h2 _ (Nat.le_refl _)
theorem jP_all {σ : QSt} {n s0 : Nat} (hn : n ≤ σ 0 1) (h : ∀ p, p < σ 0 1 → σ 97 p = 0 → p < n) : qsum (fun l => qB (σ 96 l = s0 ∧ σ 97 l = 0)) (σ 0 1) = qsum (fun l => qB (σ 96 l = s0 ∧ σ 97 l = 0)) n := by
  have key : ∀ d, n + d ≤ σ 0 1 → qsum (fun l => qB (σ 96 l = s0 ∧ σ 97 l = 0)) (n + d) = qsum (fun l => qB (σ 96 l = s0 ∧ σ 97 l = 0)) n := by
    intro d
    induction d with
    | zero => intro _; rfl
    | succ d ih =>
      intro hd
      show qsum _ (n + d) + qB (σ 96 (n + d) = s0 ∧ σ 97 (n + d) = 0) = _
      rw [ih (by omega), qB_f (fun z => by have := h (n + d) (by omega) z.2; omega), Nat.add_zero]
  have h2 := key (σ 0 1 - n) (by omega)
  rw [show n + (σ 0 1 - n) = σ 0 1 by omega] at h2
  exact h2
theorem l_w1 {w x : Nat} (h : w = x + 1) : nI w - 1 = nI x := by
  rw [h, ← nI_1, Int32.add_sub_cancel]
theorem l_neg {a : Nat} (h : a < 1073741824) (z : Int32) (hz : z.toInt < 0) : ¬ nI a = z := fun e => by
  have h1 := congrArg Int32.toInt e
  rw [nI_toInt (by omega)] at h1
  omega
theorem l_max {a b : Nat} (ha : a < 1073741824) (hb : b < 1073741824) : (if nI a < nI b then nI b else nI a) = nI (max a b) := by
  by_cases c : a < b
  · rw [if_pos ((nI_ltI (by omega) (by omega)).mpr c), Nat.max_eq_right (by omega)]
  · rw [if_neg (fun z => c ((nI_ltI (by omega) (by omega)).mp z)), Nat.max_eq_left (by omega)]
theorem l_rInn {n : Nat} (h : n < 1073741824) : ¬ rIn (nI n) n := fun ⟨i, hi, e⟩ => by
  have := (nI_eq (by omega) (by omega)).mp e
  omega
theorem l_rInm {n : Nat} (h : n < 1073741824) : ¬ rIn (-1) n := fun ⟨i, hi, e⟩ => l_neg (a := i) (by omega) (-1) (by decide) e.symm
theorem l_mx {f : Nat → Nat} {mn i b : Nat} (h : mn ≤ b ∧ ∀ l, l < i → f l < mn) (hp : f i < b) : max mn (f i + 1) ≤ b ∧ ∀ l, l < i + 1 → f l < max mn (f i + 1) := by
  refine ⟨by omega, fun l hl => ?_⟩
  by_cases c : l = i
  · rw [c]; omega
  · have := h.2 l (by omega); omega
theorem l_src {g : Nat → Int32} {f t : Nat → Nat} {i : Nat} (h : ∀ l, l < i → g (f l) = nI (t l)) (hs : ∀ l, l < i → f l = f i → t l = t i) : ∀ l, l < i + 1 → upd g (f i) (nI (t i)) (f l) = nI (t l) := fun l hl => by
  by_cases c : f l = f i
  · rw [c, pk_us]
    by_cases d : l = i
    · rw [d]
    · rw [hs l (by omega) c]
  · rw [pk_un c]
    exact h l (by
      rcases Nat.lt_succ_iff_lt_or_eq.mp hl with z | z
      · exact z
      · exact absurd (by rw [z]) c)
/-- a row of three words is put down -/
theorem l_wd {σ : QSt} {h : Nat → Int32} {i k : Nat} {x : Int32} {v : Nat → Int32} (e : (∀ p9, p9 < i → ∀ k9, k9 < 3 → h (3 * p9 + k9) = jWd σ p9 k9) ∧ ∀ k9, k9 < k → h (3 * i + k9) = v k9) (hk : k < 3) (hx : x = v k) : (∀ p9, p9 < i → ∀ k9, k9 < 3 → upd h (3 * i + k) x (3 * p9 + k9) = jWd σ p9 k9) ∧ ∀ k9, k9 < k + 1 → upd h (3 * i + k) x (3 * i + k9) = v k9 := by
  refine ⟨fun p9 hp k9 hk9 => ?_, fun k9 hk9 => ?_⟩
  · rw [pk_un (by omega)]; exact e.1 p9 hp k9 hk9
  · by_cases c : k9 = k
    · rw [c, pk_us]; exact hx
    · rw [pk_un (by omega)]; exact e.2 k9 (by omega)
theorem l_wdn {σ : QSt} {h : Nat → Int32} {i : Nat} {v : Nat → Int32} (e : (∀ p9, p9 < i → ∀ k9, k9 < 3 → h (3 * p9 + k9) = jWd σ p9 k9) ∧ ∀ k9, k9 < 3 → h (3 * i + k9) = v k9) (hv : ∀ k9, k9 < 3 → v k9 = jWd σ i k9) : ∀ p9, p9 < i + 1 → ∀ k9, k9 < 3 → h (3 * p9 + k9) = jWd σ p9 k9 := fun p9 hp k9 hk9 => by
  by_cases c : p9 = i
  · rw [c, e.2 k9 hk9]; exact hv k9 hk9
  · exact e.1 p9 (by omega) k9 hk9
/-- one more of a source's patterns -/
theorem l_ev1 {σ : QSt} {ev : Nat → Int32} {i : Nat} (h : ∀ s9, s9 < 4 → ev s9 = nI (qsum (fun p9 => qB (σ 96 p9 = s9 ∧ σ 97 p9 = 0)) i)) (hm : σ 97 i = 0) : ∀ s9, s9 < 4 → upd ev (σ 96 i) (nI (qsum (fun p9 => qB (σ 96 p9 = σ 96 i ∧ σ 97 p9 = 0)) i + 1)) s9 = nI (qsum (fun p9 => qB (σ 96 p9 = s9 ∧ σ 97 p9 = 0)) (i + 1)) := fun s9 hs => by
  rw [qsum]
  by_cases c : s9 = σ 96 i
  · rw [c, pk_us, qB_t ⟨rfl, hm⟩]
  · rw [pk_un c, h s9 hs, qB_f (fun z => c z.1.symm), Nat.add_zero]
theorem l_ev0 {σ : QSt} {ev : Nat → Int32} {i : Nat} (h : ∀ s9, s9 < 4 → ev s9 = nI (qsum (fun p9 => qB (σ 96 p9 = s9 ∧ σ 97 p9 = 0)) i)) (hm : ¬ σ 97 i = 0) : ∀ s9, s9 < 4 → ev s9 = nI (qsum (fun p9 => qB (σ 96 p9 = s9 ∧ σ 97 p9 = 0)) (i + 1)) := fun s9 hs => by
  rw [qsum, qB_f (fun z => hm z.2), Nat.add_zero]
  exact h s9 hs
theorem l_w2 {a b : Nat} (ha : a < 1073741824) (hb : b < 1073741824) : nI a - 1 = nI b - 1 ↔ a = b := by
  refine ⟨fun h => ?_, fun h => by rw [h]⟩
  have h2 := congrArg (· + 1) h
  have h3 : nI a - 1 + 1 = nI b - 1 + 1 := h2
  rw [Int32.sub_add_cancel, Int32.sub_add_cancel] at h3
  exact (nI_eq (by omega) (by omega)).mp h3
theorem l_w3 {a b : Nat} (ha : a < 1000000) (hb : b < 1000000) : ¬ (-10 - nI a = nI b - 1) := fun h => by
  have h1 : (-10 - nI a : Int32).toInt = -10 - (a : Int) := by
    rw [Int32.toInt_sub, nI_toInt (by omega), show (-10 : Int32).toInt = -10 by decide, Int.bmod_eq_of_le (by omega) (by omega)]
  have h2 : (nI b - 1 : Int32).toInt = (b : Int) - 1 := by
    rw [Int32.toInt_sub, nI_toInt (by omega), show (1 : Int32).toInt = 1 by decide, Int.bmod_eq_of_le (by omega) (by omega)]
  rw [h] at h1
  omega
theorem l_words {σ : QSt} (hv : zIv σ) (hj : jI σ) {q p : Nat} (hq : q < p) (hp : p < σ 0 1) (hm : σ 97 p = 0) : (qsum (fun k9 => qB (jWd σ q k9 = jWd σ p k9)) 3 = 2 → σ 97 q = 0 ∧ σ 96 q ≠ σ 96 p) := fun h => by
  have hF := hv.1.wf
  have hn := hF.n
  by_cases c : σ 97 q = 0
  · refine ⟨c, fun e => ?_⟩
    refine hv.1.ip.2.2.1 q p hq hp (σ 96 p) ⟨e, rfl, c, hm, ?_⟩
    have e2 : ∀ k9, qB (jWd σ q k9 = jWd σ p k9) = qB (σ (112 + k9) q = σ (112 + k9) p) := fun k9 => by
      unfold jWd
      rw [if_pos c, if_pos hm]
      exact qB_c (l_w2 (hF.1 _ _) (hF.1 _ _))
    have h3 : qB (σ (112 + 0) q = σ (112 + 0) p) + qB (σ (112 + 1) q = σ (112 + 1) p) + qB (σ (112 + 2) q = σ (112 + 2) p) = 2 := by
      have h4 : 0 + qB (jWd σ q 0 = jWd σ p 0) + qB (jWd σ q 1 = jWd σ p 1) + qB (jWd σ q 2 = jWd σ p 2) = 2 := h
      rw [e2, e2, e2] at h4
      omega
    rw [r_df3]
    have e3 : ∀ a b : Nat, qB (a ≠ b) + qB (a = b) = 1 := fun a b => by
      by_cases d : a = b
      · rw [qB_t d, qB_f (fun z => z d)]
      · rw [qB_f d, qB_t d]
    have g0 := e3 (σ (112 + 0) q) (σ (112 + 0) p)
    have g1 := e3 (σ (112 + 1) q) (σ (112 + 1) p)
    have g2 := e3 (σ (112 + 2) q) (σ (112 + 2) p)
    show qB (σ (112 + 0) q ≠ σ (112 + 0) p) + qB (σ (112 + 1) q ≠ σ (112 + 1) p) + qB (σ (112 + 2) q ≠ σ (112 + 2) p) = 1
    omega
  · exfalso
    have e2 : ∀ k9, k9 < 3 → qB (jWd σ q k9 = jWd σ p k9) = 0 := fun k9 hk => by
      unfold jWd
      rw [if_neg c, if_pos hm]
      refine qB_f (l_w3 (by omega) ?_)
      obtain ⟨l, hl, e⟩ := hj.2.2.1 p hp hm
      have q9 := (hv.1.ip.2.1 l hl).2.2 k9 hk
      have q8 : σ (112 + k9) (σ 68 l) = 0 ∨ σ (112 + k9) (σ 68 l) = σ (80 + k9) l + 1 := q9
      have := hF.lwd hl hk
      rw [e] at q8
      omega
    have h3 : qsum (fun k9 => qB (jWd σ q k9 = jWd σ p k9)) 3 = 0 := qsum_zero 3 e2
    omega
theorem l_qB0 {P : Prop} [Decidable P] (h : qB P = 0) : ¬ P := fun z => by
  rw [qB_t z] at h
  exact absurd h (by decide)
/-- one more of a row by sources -/
theorem l_up4 {F : Nat → Nat → Nat} {g : Nat → Int32} {i0 z x : Nat} (h : ∀ s9, s9 < 4 → g s9 = nI (qsum (F s9) z)) (hx : F i0 z = x) (h0 : ∀ s9, s9 ≠ i0 → F s9 z = 0) : ∀ s9, s9 < 4 → upd g i0 (nI (qsum (F i0) z + x)) s9 = nI (qsum (F s9) (z + 1)) := fun s9 hs => by
  rw [qsum]
  by_cases c : s9 = i0
  · rw [c, pk_us, hx]
  · rw [pk_un c, h s9 hs, h0 s9 c, Nat.add_zero]
theorem l_al4 {F : Nat → Nat → Nat} {g : Nat → Int32} {i0 z v : Nat} (h : ∀ s9, s9 < 4 → g s9 = nI (qB (qsum (F s9) z = 0))) (hv : v = qB (qsum (F i0) (z + 1) = 0)) (h0 : ∀ s9, s9 ≠ i0 → F s9 z = 0) : ∀ s9, s9 < 4 → upd g i0 (nI v) s9 = nI (qB (qsum (F s9) (z + 1) = 0)) := fun s9 hs => by
  by_cases c : s9 = i0
  · rw [c, pk_us, hv]
  · rw [pk_un c, h s9 hs, qsum, h0 s9 c, Nat.add_zero]
theorem l_all4 {g : Nat → Int32} (h : g = upd (upd (upd (upd (fun _ => 0) 0 (nI 1)) 1 (nI 1)) 2 (nI 1)) 3 (nI 1)) : ∀ s9, s9 < 4 → g s9 = nI 1 := fun s9 hs => by
  rw [h]
  rcases (show s9 = 0 ∨ s9 = 1 ∨ s9 = 2 ∨ s9 = 3 by omega) with rfl | rfl | rfl | rfl <;> rfl
/-- beyond a budget all that is kept is guarded -/
theorem l_bud {σ : QSt} {s0 : Nat} (h : jB σ s0) (hk : ¬ qkept σ s0 ≤ σ 48 s0) : qsum (fun l => qB (σ 64 l = s0 ∧ σ 69 l = 107 ∧ σ 70 l = 0)) (σ 0 0) = 0 :=
  qsum_zero _ (fun l hl => qB_f (fun z => (h.resolve_left hk) l hl z.1 z.2.1 z.2.2))
