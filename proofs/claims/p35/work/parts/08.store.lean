/-! bounds of the state, and what the lists' cells are -/
def qWF (σ : QSt) : Prop := (∀ r i, σ r i < 1073741824) ∧ (σ 0 0 ≤ 200 ∧ σ 0 1 ≤ 200 ∧ σ 0 2 ≤ 6 ∧ σ 0 3 ≤ 1300 ∧ σ 0 4 ≤ 20) ∧ (∀ j, σ 0 j ≤ σ 32 j) ∧ (∀ i, i < σ 0 0 → σ 68 i < σ 0 1) ∧ (∀ f, f < σ 0 3 → σ 160 f < σ 0 2) ∧ (∀ a, a < σ 0 2 → σ 134 a ≤ σ 0 3) ∧ (∀ i, i < σ 0 0 → σ 67 i ≤ σ 1 0 ∧ σ 64 i < 4 ∧ σ 80 i < 100 ∧ σ 81 i < 100 ∧ σ 82 i < 100 ∧ σ 69 i < 128 ∧ σ 66 i < 100) ∧ (∀ a, a < σ 0 2 → σ 146 a ≤ 3 ∧ σ 131 a < 128) ∧ (∀ j, σ 32 j ≤ 10 + 2 * σ 0 j ∧ (σ 32 j = 0 ∨ 10 ≤ σ 32 j) ∧ σ 0 j ≤ 1300)
theorem qWF.b {σ : QSt} (h : qWF σ) (r i : Nat) : σ r i < 1073741824 := h.1 r i
theorem qWF.c {σ : QSt} (h : qWF σ) (j : Nat) : σ 0 j ≤ σ 32 j := h.2.2.1 j
theorem qWF.n {σ : QSt} (h : qWF σ) : σ 0 0 ≤ 200 ∧ σ 0 1 ≤ 200 ∧ σ 0 2 ≤ 6 ∧ σ 0 3 ≤ 1300 ∧ σ 0 4 ≤ 20 := h.2.1
theorem qWF.pat {σ : QSt} (h : qWF σ) {i : Nat} (hi : i < σ 0 0) : σ 68 i < σ 0 1 := h.2.2.2.1 i hi
theorem qWF.alt {σ : QSt} (h : qWF σ) {f : Nat} (hf : f < σ 0 3) : σ 160 f < σ 0 2 := h.2.2.2.2.1 f hf
theorem qWF.fir {σ : QSt} (h : qWF σ) {a : Nat} (ha : a < σ 0 2) : σ 134 a ≤ σ 0 3 := h.2.2.2.2.2.1 a ha
theorem qWF.came {σ : QSt} (h : qWF σ) {i : Nat} (hi : i < σ 0 0) : σ 67 i ≤ σ 1 0 := (h.2.2.2.2.2.2.1 i hi).1
theorem qWF.lin {σ : QSt} (h : qWF σ) {i : Nat} (hi : i < σ 0 0) : σ 67 i ≤ σ 1 0 ∧ σ 64 i < 4 ∧ σ 80 i < 100 ∧ σ 81 i < 100 ∧ σ 82 i < 100 ∧ σ 69 i < 128 ∧ σ 66 i < 100 := h.2.2.2.2.2.2.1 i hi
theorem qWF.plc {σ : QSt} (h : qWF σ) {a : Nat} (ha : a < σ 0 2) : σ 146 a ≤ 3 := (h.2.2.2.2.2.2.2.1 a ha).1
theorem qWF.ast {σ : QSt} (h : qWF σ) {a : Nat} (ha : a < σ 0 2) : σ 131 a < 128 := (h.2.2.2.2.2.2.2.1 a ha).2
theorem qWF.lst {σ : QSt} (h : qWF σ) {i : Nat} (hi : i < σ 0 0) : σ 69 i < 128 := (h.lin hi).2.2.2.2.2.1
theorem qWF.byt {σ : QSt} (h : qWF σ) {i : Nat} (hi : i < σ 0 0) : σ 66 i ≤ 99 := Nat.le_of_lt_succ (h.lin hi).2.2.2.2.2.2
theorem qWF.cap {σ : QSt} (h : qWF σ) (j : Nat) : σ 32 j ≤ 10 + 2 * σ 0 j ∧ (σ 32 j = 0 ∨ 10 ≤ σ 32 j) ∧ σ 0 j ≤ 1300 := h.2.2.2.2.2.2.2.2 j
theorem qLW.list {G : QG} {es : Nat} {A : Nat → Prop} {σ ad : QSt} {H : Heap} (h : qLW G es A σ ad H) (hF : qWF σ) {J i : Nat} (hJ : J < 5) (hi : i < σ 0 J) : va_P G.1 vwCl [(ad 1 J, .inr (2, [.int (nI (σ 16 J)), .ref (ad 2 J), .int (nI (σ 0 J))])), (ad 2 J, .inl (G.2 0, σ 32 J, .inr (.inr (.inr (.inr (fun i => if i < σ 0 J then some (ad (4 + 2 * J) i) else none))))))] H := by
  have h0 : 0 < σ 32 J := Nat.lt_of_lt_of_le (Nat.lt_of_le_of_lt (Nat.zero_le _) hi) (hF.c J)
  have h1 := h.to (qLV1 (G := G) (es := es) (σ := σ) (ad := ad) hJ)
  rw [if_neg (by omega)] at h1
  have h2 := h.to (qLV2 (G := G) (es := es) (σ := σ) (ad := ad) hJ h0)
  intro k x hk
  match k, hk with
  | 0, hk => cases hk; exact h1
  | 1, hk => cases hk; exact h2
  | k + 2, hk => simp at hk
theorem qLW.lob {G : QG} {es : Nat} {A : Nat → Prop} {σ ad : QSt} {H : Heap} (h : qLW G es A σ ad H) {J : Nat} (hJ : J < 5) : va_P G.1 vwCl [(ad 1 J, .inr (2, [.int (nI (σ 16 J)), .ref (if σ 32 J = 0 then es else ad 2 J), .int (nI (σ 0 J))]))] H := va_P1 (h.to (qLV1 hJ))
theorem va_P2 {D : va_G} {cl : List vw_C} {q r : Nat × va_E} {H : Heap} (h : va_at D cl q H) (h2 : va_at D cl r H) : va_P D cl [q, r] H := by
  intro k x hk
  match k, hk with
  | 0, hk => cases hk; exact h
  | 1, hk => cases hk; exact h2
  | k + 2, hk => simp at hk
theorem va_P3 {D : va_G} {cl : List vw_C} {q r t : Nat × va_E} {H : Heap} (h : va_at D cl q H) (h2 : va_at D cl r H) (h3 : va_at D cl t H) : va_P D cl [q, r, t] H := by
  intro k x hk
  match k, hk with
  | 0, hk => cases hk; exact h
  | 1, hk => cases hk; exact h2
  | 2, hk => cases hk; exact h3
  | k + 3, hk => simp at hk
def qB (p : Prop) [Decidable p] : Nat := if p then 1 else 0
theorem qB_t {p : Prop} [Decidable p] (h : p) : qB p = 1 := if_pos h
theorem qB_f {p : Prop} [Decidable p] (h : ¬ p) : qB p = 0 := if_neg h
theorem qB_le {p : Prop} [Decidable p] : qB p ≤ 1 := by unfold qB; split <;> omega
theorem qB_c {p q : Prop} [Decidable p] [Decidable q] (h : p ↔ q) : qB p = qB q := by
  by_cases c : p
  · rw [qB_t c, qB_t (h.mp c)]
  · rw [qB_f c, qB_f (fun z => c (h.mpr z))]
theorem q_nbool (b : Nat) (h : b ≤ 1) : narrow .boolean (.int (nI b)) = .int (nI b) := by
  rcases (show b = 0 ∨ b = 1 by omega) with rfl | rfl <;> rfl
theorem q_m1 {a b : Nat} (ha : a < 1073741824) (hb : b < 1073741824) : nI a - 1 = nI b ↔ a = b + 1 := by
  constructor
  · intro h
    have h2 : nI a = nI (b + 1) := by rw [nI_succ, ← h, Int32.sub_add_cancel]
    exact (nI_eq (by omega) (by omega)).mp h2
  · intro h
    rw [h]
    exact nI_pred b
theorem q_m0 {a : Nat} (ha : a < 1073741824) : nI a - 1 = -1 ↔ a = 0 := by
  constructor
  · intro h
    have h2 : nI a = nI 0 := by
      have h3 : nI a - 1 + 1 = -1 + 1 := by rw [h]
      rw [Int32.sub_add_cancel] at h3
      exact h3.trans (by decide)
    exact (nI_eq (by omega) (by omega)).mp h2
  · intro h
    rw [h]
    decide
theorem q_mm {a b : Nat} (ha : a < 1073741824) (hb : b < 1073741824) : nI a - 1 = nI b - 1 ↔ a = b := by
  constructor
  · intro h
    have h2 : nI a = nI b := by
      have h3 : nI a - 1 + 1 = nI b - 1 + 1 := by rw [h]
      rwa [Int32.sub_add_cancel, Int32.sub_add_cancel] at h3
    exact (nI_eq (by omega) (by omega)).mp h2
  · intro h
    rw [h]
theorem q_pred {P : Nat} (h : P ≠ 0) : nI P - 1 = nI (P - 1) := by
  obtain ⟨k, rfl⟩ : ∃ k, P = k + 1 := ⟨P - 1, by omega⟩
  exact nI_pred k
theorem q_31B {p : Prop} [Decidable p] : qB p < 2 ^ 31 := Nat.lt_of_le_of_lt qB_le (by decide)
theorem q_lt3 {p : Nat → Prop} (h0 : p 0) (h1 : p 1) (h2 : p 2) : ∀ k, k < 3 → p k := by
  intro k hk
  rcases (show k = 0 ∨ k = 1 ∨ k = 2 by omega) with rfl | rfl | rfl
  · exact h0
  · exact h1
  · exact h2
/-! the store's questions in numbers -/
/-- a line fits a filter: its source, least rank, place and one (0: none), word -/
abbrev qtk (σ : QSt) (s0 r0 P w0 l : Nat) : Prop := σ 64 l = s0 ∧ r0 ≤ σ 65 l ∧ (P = 0 ∨ σ (80 + (P - 1)) l = w0)
abbrev qcw (σ : QSt) (w l : Nat) : Prop := σ 1 0 - σ 67 l < w
/-- an alert counts a line -/
abbrev qcn (σ : QSt) (a l : Nat) : Prop := σ 69 l ≠ 100 ∧ qcw σ (σ 129 a) l ∧ qtk σ (σ 144 a) (σ 145 a) (σ 146 a) (σ 147 a) l
def qsum (f : Nat → Nat) : Nat → Nat
  | 0 => 0
  | n + 1 => qsum f n + f n
theorem qsum_le {f : Nat → Nat} {b : Nat} (h : ∀ i, f i ≤ b) : ∀ n, qsum f n ≤ n * b
  | 0 => by simp [qsum]
  | n + 1 => by
    have := qsum_le h n
    have := h n
    rw [qsum, Nat.succ_mul]
    omega
/-- how many of two rows of three differ -/
def qdf (P Q : Nat → Nat) : Nat → Nat
  | 0 => 0
  | n + 1 => qdf P Q n + qB (P n ≠ Q n)
theorem qdf_le (P Q : Nat → Nat) : ∀ n, qdf P Q n ≤ n
  | 0 => Nat.le_refl 0
  | n + 1 => by
    have h1 := qdf_le P Q n
    have h2 : qB (P n ≠ Q n) ≤ 1 := qB_le
    rw [qdf]
    omega
/-- a row of words fits a row of a pattern's -/
abbrev qft (P x : Nat → Nat) : Prop := ∀ k, k < 3 → (P k = 0 ∨ P k = x k + 1)
/-- the bytes of a line that a source keeps -/
def qkp (σ : QSt) (s0 l : Nat) : Nat := if σ 64 l = s0 ∧ σ 69 l = 107 then σ 66 l else 0
def qkept (σ : QSt) (s0 : Nat) : Nat := qsum (qkp σ s0) (σ 0 0)
def qarch (σ : QSt) (s0 r0 P w0 : Nat) : Nat := qsum (fun l => qB (σ 69 l = 97 ∧ qtk σ s0 r0 P w0 l)) (σ 0 0)
def qcnt (σ : QSt) (a : Nat) : Nat := qsum (fun l => qB (qcn σ a l)) (σ 0 0)
/-! marks as bits -/
theorem qbv_get (f : Nat → Nat) (o : Nat) : ∀ (n b : Nat), n ≤ 64 → (qbv f o n).getLsbD b = (decide (b < n) && decide (f (o + b) = 1))
  | 0, b, _ => by simp [qbv]
  | n + 1, b, hn => by
    have ih := qbv_get f o n b (by omega)
    unfold qbv
    by_cases hb : b = n
    · subst hb
      by_cases h : f (o + b) = 1
      · rw [if_pos h, BitVec.getLsbD_or, ih, BitVec.getLsbD_twoPow]
        simp [h]
        omega
      · rw [if_neg h, ih]
        simp [h]
    · have e1 : decide (b < n + 1) = decide (b < n) := by
        rw [decide_eq_decide]; omega
      rw [e1]
      by_cases h : f (o + n) = 1
      · rw [if_pos h, BitVec.getLsbD_or, ih, BitVec.getLsbD_twoPow]
        have e2 : decide (n = b) = false := decide_eq_false (fun z => hb z.symm)
        rw [e2]
        simp
      · rw [if_neg h, ih]
theorem qbits_get (f : Nat → Nat) (k w b : Nat) (hk : k ≤ 64) : (qbits f k w).toBitVec.getLsbD b = (decide (b < k) && decide (f (k * w + b) = 1)) := qbv_get f (k * w) k b hk
theorem q_sh64 : ∀ b, b < 64 → ((nI b).toInt64 &&& 63) = lN b ∧ ((lN b).toBitVec.smod 64).toNat = b := by decide +kernel
theorem q_shr1 (x : Int64) {b : Nat} (hb : b < 64) : ((x >>> ((nI b).toInt64 &&& 63)) &&& 1) = if x.toBitVec.getLsbD b = true then 1 else 0 := by
  rw [(q_sh64 b hb).1]
  have e : (x >>> lN b).toBitVec = x.toBitVec.sshiftRight b := by
    rw [Int64.toBitVec_shiftRight, BitVec.sshiftRight_eq', (q_sh64 b hb).2]
  have h1 : ((x >>> lN b) &&& 1).toBitVec = if x.toBitVec.getLsbD b = true then 1#64 else 0#64 := by
    rw [Int64.toBitVec_and, e]
    apply BitVec.eq_of_getLsbD_eq
    intro i hi
    rw [BitVec.getLsbD_and, BitVec.getLsbD_sshiftRight]
    cases i with
    | zero =>
      have h2 : (Int64.toBitVec 1).getLsbD 0 = true := by decide
      rw [h2]
      by_cases c : x.toBitVec.getLsbD b = true
      · rw [if_pos c]; simp [hb, c]
      · rw [if_neg c]
        have c2 : x.toBitVec.getLsbD b = false := by simpa using c
        simp [hb] at c2 ⊢
        exact c2
    | succ i =>
      have h2 : (Int64.toBitVec 1).getLsbD (i + 1) = false := by
        show (1#64).getLsbD (i + 1) = false
        simp
      rw [h2, Bool.and_false]
      split <;> simp
  by_cases c : x.toBitVec.getLsbD b = true
  · rw [if_pos c] at h1 ⊢
    exact Int64.toBitVec_inj.mp h1
  · rw [if_neg c] at h1 ⊢
    exact Int64.toBitVec_inj.mp h1
theorem q_mark {F : Nat → Nat} {k l : Nat} (hk : 0 < k) (hk2 : k ≤ 64) : lg_cmp ((qbits F k (l / k) >>> ((nI (l % k)).toInt64 &&& 63)) &&& 1) 1 = if F l = 1 then 0 else -1 := by
  have hb : l % k < k := Nat.mod_lt _ hk
  rw [q_shr1 _ (by omega), qbits_get _ _ _ _ hk2, Nat.div_add_mod]
  by_cases c : F l = 1
  · rw [if_pos c, if_pos (by simp [hb, c])]; decide
  · rw [if_neg c, if_neg (by simp [c])]; decide
/-! the first place of a kind -/
def qFst (P : Nat → Prop) (n : Nat) (r : Option Nat) : Prop := match r with
  | none => ∀ j, j < n → ¬ P j
  | some q => q < n ∧ P q ∧ ∀ j, j < q → ¬ P j
theorem qFst_some {P : Nat → Prop} {n i : Nat} {r : Option Nat} (h : qFst P n r) (hi : i < n) (hp : P i) (hj : ∀ j, j < i → ¬ P j) : r = some i := by
  cases r with
  | none => exact absurd hp (h i hi)
  | some q =>
    rcases Nat.lt_trichotomy q i with z | z | z
    · exact absurd h.2.1 (hj q z)
    · rw [z]
    · exact absurd hp (h.2.2 i z)
theorem qFst_none {P : Nat → Prop} {n : Nat} {r : Option Nat} (h : qFst P n r) (hj : ∀ j, j < n → ¬ P j) : r = none := by
  cases r with
  | none => rfl
  | some q => exact absurd h.2.1 (hj q h.1)
theorem qFst_ex (P : Nat → Prop) (n : Nat) : ∃ r, qFst P n r := by
  by_cases h : ∃ k, k < n ∧ P k
  · obtain ⟨k, ⟨h1, h2⟩, h3⟩ := pk_least (fun k => k < n ∧ P k) h
    exact ⟨some k, h1, h2, fun j hj hp => h3 j hj ⟨Nat.lt_trans hj h1, hp⟩⟩
  · exact ⟨none, fun j hj hp => h ⟨j, hj, hp⟩⟩
abbrev qrf (f : Nat → Nat) (r : Option Nat) : Value := match r with
  | none => .null
  | some k => .ref (f k)
/-- the line that is next to be dropped, of the first n -/
def qnd (σ : QSt) (s0 : Nat) : Nat → Option Nat
  | 0 => none
  | n + 1 => match qnd σ s0 n with
    | none => if σ 64 n = s0 ∧ σ 69 n = 107 ∧ σ 70 n = 0 then some n else none
    | some k => if σ 64 n = s0 ∧ σ 69 n = 107 ∧ σ 70 n = 0 ∧ σ 65 n < σ 65 k then some n else some k
theorem qnd_lt (σ : QSt) (s0 : Nat) : ∀ n k, qnd σ s0 n = some k → k < n
  | 0, k, h => by simp [qnd] at h
  | n + 1, k, h => by
    have ih := qnd_lt σ s0 n
    unfold qnd at h
    cases hq : qnd σ s0 n with
    | none =>
      rw [hq] at h
      dsimp only at h
      split at h
      · cases h; omega
      · cases h
    | some j =>
      rw [hq] at h
      dsimp only at h
      have := ih j hq
      split at h
      · cases h; omega
      · cases h; omega
theorem qLW.inj {G : QG} {es : Nat} {A : Nat → Prop} {σ ad : QSt} {H : Heap} (h : qLW G es A σ ad H) {k i j : Nat} {e e' : va_E} (h1 : qLV G es σ ad k i = some e) (h2 : qLV G es σ ad k j = some e') : ad k i = ad k j ↔ i = j := ⟨fun z => (h.2 k i k j e e' h1 h2 z).2, fun z => by rw [z]⟩
section QA
variable {p : Program} {l : Launch} {e : Env} {R : Room} {s : State} {m : MethodId} {args : Array Value} {below : List Frame} {meth : Method} {c : Code} {H : Heap} {locs : List Loc} {cells slots : Nat} {Q : State → Prop}
variable {cc : ByteArray} {pc : Nat} {ls : Array Slot} {rest : List Value}
theorem q_acmp_eq (hexec : p.tables.exec = Jvm.exec) (hb : c.code = cc) {x y : Nat} {off : Int} {tgt : Nat} (hdg : decode cc pc = .ok (.if_acmp .eq off, 3)) (ht : (pc : Int) + off = (tgt : Int)) (kt : x = y → W p l e R s m args below meth c H locs cells slots Q (F0 m tgt ls rest)) (kf : x ≠ y → W p l e R s m args below meth c H locs cells slots Q (F0 m (pc + 3) ls rest)) : W p l e R s m args below meth c H locs cells slots Q (F0 m pc ls (.ref y :: .ref x :: rest)) :=
  lv_acmp_eq (rx := some x) (ry := some y) hexec hb hdg ht (fun z => kt (Option.some.inj z)) (fun z => kf (fun h => z (by rw [h])))
theorem q_acmp_ne (hexec : p.tables.exec = Jvm.exec) (hb : c.code = cc) {x y : Nat} {off : Int} {tgt : Nat} (hdg : decode cc pc = .ok (.if_acmp .ne off, 3)) (ht : (pc : Int) + off = (tgt : Int)) (kt : x ≠ y → W p l e R s m args below meth c H locs cells slots Q (F0 m tgt ls rest)) (kf : x = y → W p l e R s m args below meth c H locs cells slots Q (F0 m (pc + 3) ls rest)) : W p l e R s m args below meth c H locs cells slots Q (F0 m pc ls (.ref y :: .ref x :: rest)) :=
  lv_acmp_ne (rx := some x) (ry := some y) hexec hb hdg ht (fun z => kt (fun h => z (by rw [h]))) (fun z => kf (Option.some.inj z))
end QA
/-- how many lines of all are of a kind -/
def qnum (P : Nat → Prop) [DecidablePred P] (n : Nat) : Nat := qsum (fun l => qB (P l)) n
