/-! bounds of the state, and what the lists' cells are -/
def qWF (σ : QSt) : Prop := (∀ r i, σ r i < 1073741824) ∧ (σ 0 0 ≤ 200 ∧ σ 0 1 ≤ 200 ∧ σ 0 2 ≤ 6 ∧ σ 0 3 ≤ 1300 ∧ σ 0 4 ≤ 20) ∧ (∀ j, σ 0 j ≤ σ 32 j) ∧ (∀ i, i < σ 0 0 → σ 68 i < σ 0 1) ∧ (∀ f, f < σ 0 3 → σ 160 f < σ 0 2) ∧ (∀ a, a < σ 0 2 → σ 134 a ≤ σ 0 3) ∧ (∀ i, i < σ 0 0 → σ 67 i ≤ σ 1 0 ∧ σ 64 i < 4 ∧ σ 80 i < 100 ∧ σ 81 i < 100 ∧ σ 82 i < 100) ∧ (∀ a, a < σ 0 2 → σ 146 a ≤ 3)
theorem qWF.b {σ : QSt} (h : qWF σ) (r i : Nat) : σ r i < 1073741824 := h.1 r i
theorem qWF.c {σ : QSt} (h : qWF σ) (j : Nat) : σ 0 j ≤ σ 32 j := h.2.2.1 j
theorem qWF.n {σ : QSt} (h : qWF σ) : σ 0 0 ≤ 200 ∧ σ 0 1 ≤ 200 ∧ σ 0 2 ≤ 6 ∧ σ 0 3 ≤ 1300 ∧ σ 0 4 ≤ 20 := h.2.1
theorem qWF.pat {σ : QSt} (h : qWF σ) {i : Nat} (hi : i < σ 0 0) : σ 68 i < σ 0 1 := h.2.2.2.1 i hi
theorem qWF.alt {σ : QSt} (h : qWF σ) {f : Nat} (hf : f < σ 0 3) : σ 160 f < σ 0 2 := h.2.2.2.2.1 f hf
theorem qWF.fir {σ : QSt} (h : qWF σ) {a : Nat} (ha : a < σ 0 2) : σ 134 a ≤ σ 0 3 := h.2.2.2.2.2.1 a ha
theorem qWF.came {σ : QSt} (h : qWF σ) {i : Nat} (hi : i < σ 0 0) : σ 67 i ≤ σ 1 0 := (h.2.2.2.2.2.2.1 i hi).1
theorem qWF.lin {σ : QSt} (h : qWF σ) {i : Nat} (hi : i < σ 0 0) : σ 67 i ≤ σ 1 0 ∧ σ 64 i < 4 ∧ σ 80 i < 100 ∧ σ 81 i < 100 ∧ σ 82 i < 100 := h.2.2.2.2.2.2.1 i hi
theorem qWF.plc {σ : QSt} (h : qWF σ) {a : Nat} (ha : a < σ 0 2) : σ 146 a ≤ 3 := h.2.2.2.2.2.2.2 a ha
theorem qLW.list {G : QG} {es : Nat} {A : Nat → Prop} {σ ad : QSt} {H : Heap} (h : qLW G es A σ ad H) (hF : qWF σ) {J i : Nat} (hJ : J < 5) (hi : i < σ 0 J) : va_P G.1 vwCl [(ad 1 J, .inr (2, [.int (nI (σ 16 J)), .ref (ad 2 J), .int (nI (σ 0 J))])), (ad 2 J, .inl (G.2 0, σ 32 J, .inr (.inr (.inr (.inr (fun i => if i < σ 0 J then some (ad (4 + 2 * J) i) else none))))))] H := by
  have h0 : 0 < σ 32 J := Nat.lt_of_lt_of_le (Nat.lt_of_le_of_lt (Nat.zero_le _) hi) (hF.c J)
  have h1 := h.to (qLV1 (G := G) (es := es) (σ := σ) (ad := ad) hJ)
  rw [if_neg (by omega)] at h1
  have h2 := h.to (qLV2 (G := G) (es := es) (σ := σ) (ad := ad) hJ h0)
  intro k x hk
  match k, hk with
  | 0, hk => cases hk; exact h1
  | 1, hk => cases hk; exact h2
  | k + 2, hk => simp at hk
theorem qLW.lob {G : QG} {es : Nat} {A : Nat → Prop} {σ ad : QSt} {H : Heap} (h : qLW G es A σ ad H) {J : Nat} (hJ : J < 5) : va_P G.1 vwCl [(ad 1 J, .inr (2, [.int (nI (σ 16 J)), .ref (if σ 32 J = 0 then es else ad 2 J), .int (nI (σ 0 J))]))] H := va_P1 (h.to (qLV1 hJ))
theorem va_P2 {D : va_G} {cl : List vw_C} {q r : Nat × va_E} {H : Heap} (h : va_at D cl q H) (h2 : va_at D cl r H) : va_P D cl [q, r] H := by
  intro k x hk
  match k, hk with
  | 0, hk => cases hk; exact h
  | 1, hk => cases hk; exact h2
  | k + 2, hk => simp at hk
theorem va_P3 {D : va_G} {cl : List vw_C} {q r t : Nat × va_E} {H : Heap} (h : va_at D cl q H) (h2 : va_at D cl r H) (h3 : va_at D cl t H) : va_P D cl [q, r, t] H := by
  intro k x hk
  match k, hk with
  | 0, hk => cases hk; exact h
  | 1, hk => cases hk; exact h2
  | 2, hk => cases hk; exact h3
  | k + 3, hk => simp at hk
def qB (p : Prop) [Decidable p] : Nat := if p then 1 else 0
theorem qB_t {p : Prop} [Decidable p] (h : p) : qB p = 1 := if_pos h
theorem qB_f {p : Prop} [Decidable p] (h : ¬ p) : qB p = 0 := if_neg h
theorem qB_le {p : Prop} [Decidable p] : qB p ≤ 1 := by unfold qB; split <;> omega
theorem q_nbool (b : Nat) (h : b ≤ 1) : narrow .boolean (.int (nI b)) = .int (nI b) := by
  rcases (show b = 0 ∨ b = 1 by omega) with rfl | rfl <;> rfl
theorem q_m1 {a b : Nat} (ha : a < 1073741824) (hb : b < 1073741824) : nI a - 1 = nI b ↔ a = b + 1 := by
  constructor
  · intro h
    have h2 : nI a = nI (b + 1) := by rw [nI_succ, ← h, Int32.sub_add_cancel]
    exact (nI_eq (by omega) (by omega)).mp h2
  · intro h
    rw [h]
    exact nI_pred b
theorem q_m0 {a : Nat} (ha : a < 1073741824) : nI a - 1 = -1 ↔ a = 0 := by
  constructor
  · intro h
    have h2 : nI a = nI 0 := by
      have h3 : nI a - 1 + 1 = -1 + 1 := by rw [h]
      rw [Int32.sub_add_cancel] at h3
      exact h3.trans (by decide)
    exact (nI_eq (by omega) (by omega)).mp h2
  · intro h
    rw [h]
    decide
theorem q_mm {a b : Nat} (ha : a < 1073741824) (hb : b < 1073741824) : nI a - 1 = nI b - 1 ↔ a = b := by
  constructor
  · intro h
    have h2 : nI a = nI b := by
      have h3 : nI a - 1 + 1 = nI b - 1 + 1 := by rw [h]
      rwa [Int32.sub_add_cancel, Int32.sub_add_cancel] at h3
    exact (nI_eq (by omega) (by omega)).mp h2
  · intro h
    rw [h]
theorem q_pred {P : Nat} (h : P ≠ 0) : nI P - 1 = nI (P - 1) := by
  obtain ⟨k, rfl⟩ : ∃ k, P = k + 1 := ⟨P - 1, by omega⟩
  exact nI_pred k
theorem q_31B {p : Prop} [Decidable p] : qB p < 2 ^ 31 := Nat.lt_of_le_of_lt qB_le (by decide)
theorem q_lt3 {p : Nat → Prop} (h0 : p 0) (h1 : p 1) (h2 : p 2) : ∀ k, k < 3 → p k := by
  intro k hk
  rcases (show k = 0 ∨ k = 1 ∨ k = 2 by omega) with rfl | rfl | rfl
  · exact h0
  · exact h1
  · exact h2
/-! the store's questions in numbers -/
/-- a line fits a filter: its source, least rank, place and one (0: none), word -/
abbrev qtk (σ : QSt) (s0 r0 P w0 l : Nat) : Prop := σ 64 l = s0 ∧ r0 ≤ σ 65 l ∧ (P = 0 ∨ σ (80 + (P - 1)) l = w0)
abbrev qcw (σ : QSt) (w l : Nat) : Prop := σ 1 0 - σ 67 l < w
/-- an alert counts a line -/
abbrev qcn (σ : QSt) (a l : Nat) : Prop := σ 69 l ≠ 100 ∧ qcw σ (σ 129 a) l ∧ qtk σ (σ 144 a) (σ 145 a) (σ 146 a) (σ 147 a) l
def qsum (f : Nat → Nat) : Nat → Nat
  | 0 => 0
  | n + 1 => qsum f n + f n
theorem qsum_le {f : Nat → Nat} {b : Nat} (h : ∀ i, f i ≤ b) : ∀ n, qsum f n ≤ n * b
  | 0 => by simp [qsum]
  | n + 1 => by
    have := qsum_le h n
    have := h n
    rw [qsum, Nat.succ_mul]
    omega
/-- how many of two rows of three differ -/
def qdf (P Q : Nat → Nat) : Nat → Nat
  | 0 => 0
  | n + 1 => qdf P Q n + qB (P n ≠ Q n)
theorem qdf_le (P Q : Nat → Nat) : ∀ n, qdf P Q n ≤ n
  | 0 => Nat.le_refl 0
  | n + 1 => by
    have h1 := qdf_le P Q n
    have h2 : qB (P n ≠ Q n) ≤ 1 := qB_le
    rw [qdf]
    omega
/-- a row of words fits a row of a pattern's -/
abbrev qft (P x : Nat → Nat) : Prop := ∀ k, k < 3 → (P k = 0 ∨ P k = x k + 1)
/-- the bytes of a line that a source keeps -/
def qkp (σ : QSt) (s0 l : Nat) : Nat := if σ 64 l = s0 ∧ σ 69 l = 107 then σ 66 l else 0
def qkept (σ : QSt) (s0 : Nat) : Nat := qsum (qkp σ s0) (σ 0 0)
def qarch (σ : QSt) (s0 r0 P w0 : Nat) : Nat := qsum (fun l => qB (σ 69 l = 97 ∧ qtk σ s0 r0 P w0 l)) (σ 0 0)
def qcnt (σ : QSt) (a : Nat) : Nat := qsum (fun l => qB (qcn σ a l)) (σ 0 0)
