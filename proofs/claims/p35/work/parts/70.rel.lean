/-! the store's state and the reference's: what they have in common -/
abbrev zl (r : Nat) : Prop := (64 ≤ r ∧ r ≤ 69) ∨ (80 ≤ r ∧ r ≤ 82)
abbrev zp (r : Nat) : Prop := (96 ≤ r ∧ r ≤ 97) ∨ (112 ≤ r ∧ r ≤ 114)
abbrev za (r : Nat) : Prop := (128 ≤ r ∧ r ≤ 131) ∨ r = 133 ∨ (144 ≤ r ∧ r ≤ 147)
abbrev zf (r : Nat) : Prop := 160 ≤ r ∧ r ≤ 162
abbrev zq (r : Nat) : Prop := r = 192 ∨ r = 208 ∨ r = 209
/-- the places of the rows that both have -/
def zD (σ : QSt) (r j : Nat) : Prop := (r = 0 ∧ j < 5) ∨ (r = 1 ∧ j = 0) ∨ (r = 48 ∧ j < 4) ∨ (zl r ∧ j < σ 0 0) ∨ (zp r ∧ j < σ 0 1) ∨ (za r ∧ j < σ 0 2) ∨ (zf r ∧ j < σ 0 3) ∨ (zq r ∧ j < σ 0 4)
theorem zD.ne {σ : QSt} {r j : Nat} (h : zD σ r j) : r ≠ 2 ∧ r ≠ 16 ∧ r ≠ 32 ∧ r ≠ 70 ∧ r ≠ 132 ∧ r ≠ 134 ∧ r ≠ 135 ∧ r ≠ 163 ∧ r ≠ 193 ∧ r ≠ 194 ∧ r ≠ 195 ∧ r < 1000 := by
  unfold zD at h
  rcases h with h | h | h | ⟨h, _⟩ | ⟨h, _⟩ | ⟨h, _⟩ | ⟨h, _⟩ | ⟨h, _⟩ <;> omega
theorem zD.cast {σ τ : QSt} {r j : Nat} (e0 : σ 0 0 = τ 0 0) (e1 : σ 0 1 = τ 0 1) (e2 : σ 0 2 = τ 0 2) (e3 : σ 0 3 = τ 0 3) (e4 : σ 0 4 = τ 0 4) (h : zD σ r j) : zD τ r j := by
  unfold zD at h ⊢
  rw [e0, e1, e2, e3, e4] at h
  exact h
theorem zD.c3 {σ τ : QSt} {r j : Nat} (e0 : σ 0 0 = τ 0 0) (e1 : σ 0 1 = τ 0 1) (e2 : σ 0 2 = τ 0 2) (e3 : σ 0 3 = τ 0 3 + 1) (e4 : σ 0 4 = τ 0 4) (h : zD σ r j) : (zf r ∧ j = τ 0 3) ∨ zD τ r j := by
  unfold zD at h ⊢
  rw [e0, e1, e2, e3, e4] at h
  rcases h with h | h | h | h | h | h | ⟨h, h7⟩ | h
  · exact Or.inr (Or.inl h)
  · exact Or.inr (Or.inr (Or.inl h))
  · exact Or.inr (Or.inr (Or.inr (Or.inl h)))
  · exact Or.inr (Or.inr (Or.inr (Or.inr (Or.inl h))))
  · exact Or.inr (Or.inr (Or.inr (Or.inr (Or.inr (Or.inl h)))))
  · exact Or.inr (Or.inr (Or.inr (Or.inr (Or.inr (Or.inr (Or.inl h))))))
  · rcases Nat.lt_succ_iff_lt_or_eq.mp h7 with z | z
    · exact Or.inr (Or.inr (Or.inr (Or.inr (Or.inr (Or.inr (Or.inr (Or.inl ⟨h, z⟩)))))))
    · exact Or.inl ⟨h, z⟩
  · exact Or.inr (Or.inr (Or.inr (Or.inr (Or.inr (Or.inr (Or.inr (Or.inr h)))))))
def zRel (σ ρ : QSt) : Prop := (∀ r j, zD σ r j → ρ r j = σ r j) ∧ (∀ a, a < σ 0 2 → σ 134 a ≠ 0 → ρ 135 a = σ 134 a - 1) ∧ (∀ f, f < σ 0 3 → ∀ l, σ (1000 + f) l = 1 ↔ (ρ 162 f = 0 ∧ ρ (1000 + f) l = 1)) ∧ (∀ x, x < σ 0 4 → ρ 195 x = if σ 193 x = 0 then 0 else σ 194 x + 1) ∧ (∀ p, σ 0 1 ≤ p → ρ 97 p = 0) ∧ (∀ a, σ 0 2 ≤ a → ρ 133 a = 0) ∧ ∀ f, σ 0 3 ≤ f → ρ 162 f = 0 ∧ ∀ l, ρ (1000 + f) l ≠ 1
theorem zRel.d {σ ρ : QSt} (h : zRel σ ρ) {r j : Nat} (hd : zD σ r j) : ρ r j = σ r j := h.1 r j hd
theorem zRel.n {σ ρ : QSt} (h : zRel σ ρ) {j : Nat} (hj : j < 5) : ρ 0 j = σ 0 j := h.1 0 j (Or.inl ⟨rfl, hj⟩)
theorem zRel.t {σ ρ : QSt} (h : zRel σ ρ) : ρ 1 0 = σ 1 0 := h.1 1 0 (Or.inr (Or.inl ⟨rfl, rfl⟩))
theorem zRel.b {σ ρ : QSt} (h : zRel σ ρ) {s0 : Nat} (hs : s0 < 4) : ρ 48 s0 = σ 48 s0 := h.1 48 s0 (Or.inr (Or.inr (Or.inl ⟨rfl, hs⟩)))
theorem zRel.l {σ ρ : QSt} (h : zRel σ ρ) {l : Nat} (hl : l < σ 0 0) {r : Nat} (hr : zl r) : ρ r l = σ r l := h.1 r l (Or.inr (Or.inr (Or.inr (Or.inl ⟨hr, hl⟩))))
theorem zRel.p {σ ρ : QSt} (h : zRel σ ρ) {l : Nat} (hl : l < σ 0 1) {r : Nat} (hr : zp r) : ρ r l = σ r l := h.1 r l (Or.inr (Or.inr (Or.inr (Or.inr (Or.inl ⟨hr, hl⟩)))))
theorem zRel.a {σ ρ : QSt} (h : zRel σ ρ) {l : Nat} (hl : l < σ 0 2) {r : Nat} (hr : za r) : ρ r l = σ r l := h.1 r l (Or.inr (Or.inr (Or.inr (Or.inr (Or.inr (Or.inl ⟨hr, hl⟩))))))
theorem zRel.f {σ ρ : QSt} (h : zRel σ ρ) {l : Nat} (hl : l < σ 0 3) {r : Nat} (hr : zf r) : ρ r l = σ r l := h.1 r l (Or.inr (Or.inr (Or.inr (Or.inr (Or.inr (Or.inr (Or.inl ⟨hr, hl⟩)))))))
theorem zRel.q {σ ρ : QSt} (h : zRel σ ρ) {l : Nat} (hl : l < σ 0 4) {r : Nat} (hr : zq r) : ρ r l = σ r l := h.1 r l (Or.inr (Or.inr (Or.inr (Or.inr (Or.inr (Or.inr (Or.inr (⟨hr, hl⟩))))))))
theorem zRel.m {σ ρ : QSt} (h : zRel σ ρ) {f : Nat} (hf : f < σ 0 3) (l : Nat) : σ (1000 + f) l = 1 ↔ (ρ 162 f = 0 ∧ ρ (1000 + f) l = 1) := h.2.2.1 f hf l
/-- rows that the relation doesn't speak of -/
theorem zRel.same {σ τ ρ π : QSt} (h : zRel σ ρ) (h1 : ∀ r j, r ≠ 16 → r ≠ 32 → r ≠ 70 → r ≠ 132 → r ≠ 163 → τ r j = σ r j) (h2 : ∀ r j, r ≠ 2 → π r j = ρ r j) : zRel τ π := by
  obtain ⟨g1, g2, g3, g4, g5, g6, g7⟩ := h
  have e : ∀ j, τ 0 j = σ 0 j := fun j => h1 0 j (by decide) (by decide) (by decide) (by decide) (by decide)
  refine ⟨fun r j hd => ?_, fun a ha z => ?_, fun f hf l => ?_, fun x hx => ?_, fun p hp => ?_, fun a ha => ?_, fun f hf => ?_⟩
  · have q := hd.ne
    rw [h2 r j q.1, h1 r j q.2.1 q.2.2.1 q.2.2.2.1 q.2.2.2.2.1 q.2.2.2.2.2.2.2.1]
    exact g1 r j (hd.cast (e _) (e _) (e _) (e _) (e _))
  · rw [e] at ha
    rw [h1 134 a (by decide) (by decide) (by decide) (by decide) (by decide)] at z ⊢
    rw [h2 135 a (by decide)]
    exact g2 a ha z
  · rw [e] at hf
    rw [h1 _ l (by omega) (by omega) (by omega) (by omega) (by omega), h2 162 f (by decide), h2 _ l (by omega)]
    exact g3 f hf l
  · rw [e] at hx
    rw [h2 195 x (by decide), h1 193 x (by decide) (by decide) (by decide) (by decide) (by decide), h1 194 x (by decide) (by decide) (by decide) (by decide) (by decide)]
    exact g4 x hx
  · rw [e] at hp
    rw [h2 97 p (by decide)]
    exact g5 p hp
  · rw [e] at ha
    rw [h2 133 a (by decide)]
    exact g6 a ha
  · rw [e] at hf
    refine ⟨by rw [h2 162 f (by decide)]; exact (g7 f hf).1, fun l => by rw [h2 _ l (by omega)]; exact (g7 f hf).2 l⟩
theorem zRel.gd {σ τ ρ : QSt} (h : zRel σ ρ) (h1 : ∀ r j, r ≠ 16 → r ≠ 32 → r ≠ 70 → r ≠ 132 → r ≠ 163 → τ r j = σ r j) : zRel τ ρ := h.same h1 (fun _ _ _ => rfl)
theorem zRel.thr {σ ρ : QSt} (h : zRel σ ρ) (v : Nat) : zRel σ (qup ρ 2 0 v) := h.same (fun _ _ _ _ _ _ _ => rfl) (fun _ _ hr => qup_k hr)
/-- a place changes in both -/
theorem zRel.up {σ ρ : QSt} (h : zRel σ ρ) {r i : Nat} (v : Nat) (hr : r ≠ 0 ∧ r ≠ 134 ∧ r ≠ 135 ∧ r ≠ 162 ∧ r ≠ 193 ∧ r ≠ 194 ∧ r ≠ 195 ∧ r < 1000) (h97 : r = 97 → i < σ 0 1) (h133 : r = 133 → i < σ 0 2) : zRel (qup σ r i v) (qup ρ r i v) := by
  obtain ⟨g1, g2, g3, g4, g5, g6, g7⟩ := h
  have e : ∀ q j, q ≠ r → qup σ r i v q j = σ q j := fun q j hq => qup_k hq
  have e2 : ∀ q j, q ≠ r → qup ρ r i v q j = ρ q j := fun q j hq => qup_k hq
  have e0 : ∀ j, qup σ r i v 0 j = σ 0 j := fun j => e 0 j (by omega)
  refine ⟨fun q j hd => ?_, fun a ha z => ?_, fun f hf l => ?_, fun x hx => ?_, fun p hp => ?_, fun a ha => ?_, fun f hf => ?_⟩
  · by_cases c : q = r ∧ j = i
    · rw [c.1, c.2, qup_s, qup_s]
    · rw [show qup ρ r i v q j = ρ q j from if_neg c, show qup σ r i v q j = σ q j from if_neg c]
      exact g1 q j (hd.cast (e0 _) (e0 _) (e0 _) (e0 _) (e0 _))
  · rw [e0] at ha
    rw [e 134 a (by omega)] at z ⊢
    rw [e2 135 a (by omega)]
    exact g2 a ha z
  · rw [e0] at hf
    rw [e _ l (by omega), e2 162 f (by omega), e2 _ l (by omega)]
    exact g3 f hf l
  · rw [e0] at hx
    rw [e2 195 x (by omega), e 193 x (by omega), e 194 x (by omega)]
    exact g4 x hx
  · rw [e0] at hp
    rw [show qup ρ r i v 97 p = ρ 97 p from if_neg (fun z => by have := h97 z.1.symm; omega)]
    exact g5 p hp
  · rw [e0] at ha
    rw [show qup ρ r i v 133 a = ρ 133 a from if_neg (fun z => by have := h133 z.1.symm; omega)]
    exact g6 a ha
  · rw [e0] at hf
    refine ⟨by rw [e2 162 f (by omega)]; exact (g7 f hf).1, fun l => by rw [e2 _ l (by omega)]; exact (g7 f hf).2 l⟩
theorem zRel.cn {σ ρ : QSt} (h : zRel σ ρ) {a l : Nat} (ha : a < σ 0 2) (hl : l < σ 0 0) (hP : σ 146 a ≤ 3) : qcn ρ a l ↔ qcn σ a l := by
  unfold qcn qcw qtk
  rw [h.l hl (r := 69) (by omega), h.t, h.l hl (r := 67) (by omega), h.a ha (r := 129) (by omega), h.l hl (r := 64) (by omega), h.a ha (r := 144) (by omega), h.a ha (r := 145) (by omega), h.l hl (r := 65) (by omega), h.a ha (r := 146) (by omega), h.a ha (r := 147) (by omega), h.l hl (r := 80 + (σ 146 a - 1)) (by omega)]
theorem zRel.cnt {σ ρ : QSt} (h : zRel σ ρ) {a : Nat} (ha : a < σ 0 2) (hP : σ 146 a ≤ 3) : qcnt ρ a = qcnt σ a := by
  unfold qcnt
  rw [h.n (by decide)]
  exact qsum_congr _ (fun l hl => qB_c (h.cn ha hl hP))
/-! what holds of the store between its calls; κ: which lines each alert counts, as it is kept -/
def zIa (σ : QSt) : Prop := ∀ a, a < σ 0 2 → (σ 131 a = 113 ∨ σ 131 a = 102 ∨ σ 131 a = 104) ∧ (σ 131 a = 104 → 1 ≤ σ 133 a) ∧ (σ 131 a ≠ 104 → σ 133 a = 0) ∧ σ 133 a ≤ 20 ∧ σ 130 a ≤ 20 ∧ 1 ≤ σ 128 a ∧ 1 ≤ σ 129 a ∧ σ 129 a ≤ 50 ∧ (σ 134 a ≠ 0 → σ 160 (σ 134 a - 1) = a) ∧ (σ 131 a ≠ 113 → σ 134 a ≠ 0 ∧ σ 162 (σ 134 a - 1) = 0)
def zIg (σ : QSt) (κ : Nat → Nat → Nat) : Prop := (∀ a l, κ a l ≤ 1) ∧ (∀ a, a < σ 0 2 → σ 132 a = qsum (κ a) (σ 0 0)) ∧ (∀ l, l < σ 0 0 → σ 70 l = qsum (fun a => κ a l) (σ 0 2) + qsum (fun f => qB (σ (1000 + f) l = 1)) (σ 0 3)) ∧ ∀ l, σ 0 0 ≤ l → σ 70 l = 0
def zIf (σ : QSt) : Prop := ∀ f, f < σ 0 3 → (∀ l, σ (1000 + f) l = 1 → l < σ 0 0) ∧ σ 163 f = qsum (fun l => qB (σ (1000 + f) l = 1)) (σ 0 0) ∧ σ 162 f ≤ 1 ∧ (σ 162 f ≠ 0 → ∀ l, σ (1000 + f) l ≠ 1)
def zIp (σ : QSt) : Prop := σ 0 1 ≤ σ 0 0 ∧ (∀ l, l < σ 0 0 → σ 97 (σ 68 l) = 0 ∧ σ 64 l = σ 96 (σ 68 l) ∧ qft (fun k => σ (112 + k) (σ 68 l)) (fun k => σ (80 + k) l)) ∧ (∀ p q, p < q → q < σ 0 1 → ∀ s0, ¬ rMy σ s0 p q) ∧ ∀ p, p < σ 0 1 → σ 97 p ≤ 1
def zIo (σ : QSt) : Prop := (∀ i j, i ≤ j → j < σ 0 0 → σ 67 i ≤ σ 67 j) ∧ (∀ l, l < σ 0 0 → σ 69 l = 100 → σ 70 l = 0) ∧ (∀ l, l < σ 0 0 → σ 65 l ≤ 4) ∧ (∀ x, x < σ 0 4 → σ 193 x ≤ 1) ∧ (∀ j, j < 5 → σ 16 j = σ 0 j) ∧ σ 1 0 ≤ 5000
/-- the state and the count of an alert agree -/
abbrev zLk (σ : QSt) (a : Nat) : Prop := σ 131 a = 102 ↔ σ 128 a ≤ σ 132 a
def zIw (σ : QSt) (κ : Nat → Nat → Nat) : Prop := qWF σ ∧ zIa σ ∧ zIg σ κ ∧ zIf σ ∧ zIp σ ∧ zIo σ
def zκ (σ : QSt) : Nat → Nat → Nat := fun a l => qB (qcn σ a l)
/-- all of it -/
def zIv (σ : QSt) : Prop := zIw σ (zκ σ) ∧ (∀ a, a < σ 0 2 → zLk σ a) ∧ σ 0 3 ≤ 6 * σ 0 0 + σ 0 2 ∧ ∀ x, x < σ 0 4 → (σ 193 x = 0 → σ 1 0 < σ 192 x) ∧ (σ 193 x ≠ 0 → σ 192 x ≤ σ 1 0)
theorem zIw.wf {σ : QSt} {κ : Nat → Nat → Nat} (h : zIw σ κ) : qWF σ := h.1
theorem zIw.ia {σ : QSt} {κ : Nat → Nat → Nat} (h : zIw σ κ) : zIa σ := h.2.1
theorem zIw.ig {σ : QSt} {κ : Nat → Nat → Nat} (h : zIw σ κ) : zIg σ κ := h.2.2.1
theorem zIw.if {σ : QSt} {κ : Nat → Nat → Nat} (h : zIw σ κ) : zIf σ := h.2.2.2.1
theorem zIw.ip {σ : QSt} {κ : Nat → Nat → Nat} (h : zIw σ κ) : zIp σ := h.2.2.2.2.1
theorem zIw.io {σ : QSt} {κ : Nat → Nat → Nat} (h : zIw σ κ) : zIo σ := h.2.2.2.2.2
theorem qsum_zero {f : Nat → Nat} : ∀ n, (∀ i, i < n → f i = 0) → qsum f n = 0
  | 0, _ => rfl
  | n + 1, h => by rw [qsum, qsum_zero n (fun i hi => h i (by omega)), h n (by omega)]
theorem qsum_le_of {f g : Nat → Nat} : ∀ n, (∀ i, i < n → f i ≤ g i) → qsum f n ≤ qsum g n
  | 0, _ => Nat.le_refl _
  | n + 1, h => by have := qsum_le_of n (fun i hi => h i (by omega)); have := h n (by omega); rw [qsum, qsum]; omega
theorem zIg.le {σ : QSt} {κ : Nat → Nat → Nat} (h : zIg σ κ) (hF : qWF σ) : (∀ a, a < σ 0 2 → σ 132 a ≤ 200) ∧ ∀ l, σ 70 l ≤ 1306 := by
  have hn := hF.n
  refine ⟨fun a ha => ?_, fun l => ?_⟩
  · rw [h.2.1 a ha]
    have := qsum_bound (f := κ a) (b := 1) (σ 0 0) (fun l _ => h.1 a l)
    omega
  · rcases Nat.lt_or_ge l (σ 0 0) with c | c
    · rw [h.2.2.1 l c]
      have h1 := qsum_bound (f := fun a => κ a l) (b := 1) (σ 0 2) (fun a _ => h.1 a l)
      have h2 := qsum_bound (f := fun f => qB (σ (1000 + f) l = 1)) (b := 1) (σ 0 3) (fun f _ => qB_le)
      omega
    · rw [h.2.2.2 l c]; omega
theorem zIf.le {σ : QSt} (h : zIf σ) (hF : qWF σ) {f : Nat} (hf : f < σ 0 3) : σ 163 f ≤ 200 := by
  have hn := hF.n
  rw [(h f hf).2.1]
  have := qsum_bound (f := fun l => qB (σ (1000 + f) l = 1)) (b := 1) (σ 0 0) (fun l _ => qB_le)
  omega
