/-! steps of the effects -/
theorem qset_qup {σ : QSt} {r0 r i v : Nat} {P : Nat → Prop} [DecidablePred P] {f : Nat → Nat} (h : r ≠ r0) : qset (qup σ r i v) r0 P f = qup (qset σ r0 P f) r i v := by
  funext q j
  by_cases c : q = r0
  · subst c
    rw [qup_k (Ne.symm h)]
    by_cases d : P j
    · rw [qset_in d, qset_in d]
    · rw [qset_out d, qset_out d, qup_k (Ne.symm h)]
  · rw [qset_k c]
    by_cases e : q = r
    · subst e
      by_cases g : j = i
      · subst g; rw [qup_s, qup_s]
      · rw [qup_j g, qup_j g, qset_k c]
    · rw [qup_k e, qup_k e, qset_k c]
theorem qfrom_anti {P : Nat → Prop} [DecidablePred P] {i j : Nat} (h : i ≤ j) (n : Nat) : qfrom P j n ≤ qfrom P i n := by
  unfold qfrom
  induction n with
  | zero => exact Nat.le_refl _
  | succ n ih =>
    rw [qsum, qsum]
    have : qB (j ≤ n ∧ P n) ≤ qB (i ≤ n ∧ P n) := by
      by_cases c : j ≤ n ∧ P n
      · rw [qB_t c, qB_t ⟨by omega, c.2⟩]; exact Nat.le_refl _
      · rw [qB_f c]; exact Nat.zero_le _
    omega
theorem q_dec (x : Int32) : x + Int32.ofInt (-1) = x - nI 1 := by
  show x + (-1) = x - 1
  exact (Int32.sub_eq_add_neg x 1).symm
theorem qfFlS_step {σ : QSt} {a k : Nat} (hk : k < σ 0 0) (h : qlv σ a k) : qfFlS σ a k = qup (qup (qfFlS σ a (k + 1)) 132 a (qfFlS σ a (k + 1) 132 a - 1)) 70 k (σ 70 k - 1) := by
  have e : qfFlS σ a (k + 1) 132 a = σ 132 a - qfrom (qlv σ a) (k + 1) (σ 0 0) := by
    unfold qfFlS
    rw [qset_k (by decide), qup_s]
  rw [e]
  unfold qfFlS
  rw [qfrom_step hk, qB_t h, qset_ins (P := fun l => k + 1 ≤ l ∧ l < σ 0 0 ∧ qlv σ a l) (i := k) (fun j => ⟨fun z => by
    by_cases c : j = k
    · exact Or.inr c
    · exact Or.inl ⟨by omega, z.2⟩, fun z => z.elim (fun q => ⟨by omega, q.2⟩) (fun q => by rw [q]; exact ⟨Nat.le_refl _, hk, h⟩)⟩), qset_qup (by decide), qset_qup (by decide), qup_qup, Nat.sub_sub]
theorem qfFlS_132 (σ : QSt) (a i : Nat) : qfFlS σ a i 132 a = σ 132 a - qfrom (qlv σ a) i (σ 0 0) := by
  unfold qfFlS
  rw [qset_k (by decide), qup_s]
theorem qfFlS_70 {σ : QSt} {a k : Nat} : qfFlS σ a (k + 1) 70 k = σ 70 k := by
  unfold qfFlS
  rw [qset_out (fun z => absurd z.1 (by omega)), qup_k (by decide)]
theorem qfArS_step {σ : QSt} {i : Nat} (h : qdu σ i) : qfArS σ (i + 1) = qup (qup (qfArS σ i) 193 i 1) 194 i (qarch σ (σ 208 i) (σ 209 i) 0 0) := by
  have e : ∀ j, (j < i + 1 ∧ qdu σ j) ↔ ((j < i ∧ qdu σ j) ∨ j = i) := fun j => ⟨fun z => (Nat.lt_succ_iff_lt_or_eq.mp z.1).elim (fun q => Or.inl ⟨q, z.2⟩) Or.inr, fun z => z.elim (fun q => ⟨by omega, q.2⟩) (fun q => by rw [q]; exact ⟨Nat.lt_succ_self _, h⟩)⟩
  unfold qfArS
  rw [qset_ins e, qset_ins e, qset_qup (by decide)]
theorem qfArS_same {σ : QSt} {i : Nat} (h : ¬ qdu σ i) : qfArS σ (i + 1) = qfArS σ i := by
  have e : ∀ j, (j < i + 1 ∧ qdu σ j) ↔ (j < i ∧ qdu σ j) := fun j => ⟨fun z => ⟨(Nat.lt_succ_iff_lt_or_eq.mp z.1).elim id (fun q => absurd (by rw [← q]; exact z.2) h), z.2⟩, fun z => ⟨by omega, z.2⟩⟩
  unfold qfArS
  rw [qset_eq e, qset_eq e]
theorem qfArS_at {σ : QSt} {i : Nat} : qfArS σ i 193 i = σ 193 i := by
  unfold qfArS
  rw [qset_k (by decide), qset_out (fun z => absurd z.1 (by omega))]
theorem qfStS_70 {σ : QSt} {a f k : Nat} : qfStS σ a f (k + 1) 70 k = σ 70 k := by
  unfold qfStS
  rw [qset_out (fun z => absurd z.1 (by omega)), qset_k (by omega), qup_k (by decide)]
theorem qfStS_163 (σ : QSt) (a f i : Nat) : qfStS σ a f i 163 f = σ 163 f + qfrom (qnw σ a f) i (σ 0 0) := by
  unfold qfStS
  rw [qset_k (by decide), qset_k (by omega), qup_s]
theorem qfStS_on {σ : QSt} {a f k : Nat} : qfStS σ a f (k + 1) (1000 + f) k = σ (1000 + f) k := by
  unfold qfStS
  rw [qset_k (by omega), qset_out (fun z => absurd z.1 (by omega)), qup_k (by omega)]
theorem qset_one {σ : QSt} {r0 i w : Nat} : qset σ r0 (fun l => l = i) (fun _ => w) = qup σ r0 i w := by
  have h := qset_ins (σ := σ) (r0 := r0) (i := i) (P := fun _ => False) (O := fun l => l = i) (v := fun _ => w) (fun j => ⟨fun z => Or.inr z, fun z => z.elim False.elim id⟩)
  rw [h, qset_none (fun j z => z)]
theorem qup_comm {σ : QSt} {r i v r2 i2 v2 : Nat} (h : r ≠ r2) : qup (qup σ r i v) r2 i2 v2 = qup (qup σ r2 i2 v2) r i v := by
  funext q j
  unfold qup
  by_cases c : q = r ∧ j = i
  · rw [if_pos c, if_neg (fun z => h (c.1.symm.trans z.1)), if_pos c]
  · rw [if_neg c]
    by_cases d : q = r2 ∧ j = i2
    · rw [if_pos d, if_neg c]
    · rw [if_neg d, if_neg c]
theorem qfStS_step {σ : QSt} {a f k : Nat} (hk : k < σ 0 0) (h : qnw σ a f k) : qfStS σ a f k = qup (qfPl (qfStS σ a f (k + 1)) f k) 70 k (σ 70 k + 1) := by
  have e : ∀ j, (k ≤ j ∧ j < σ 0 0 ∧ qnw σ a f j) ↔ ((k + 1 ≤ j ∧ j < σ 0 0 ∧ qnw σ a f j) ∨ j = k) := fun j => ⟨fun z => by
    by_cases c : j = k
    · exact Or.inr c
    · exact Or.inl ⟨by omega, z.2⟩, fun z => z.elim (fun q => ⟨by omega, q.2⟩) (fun q => by rw [q]; exact ⟨Nat.le_refl _, hk, h⟩)⟩
  unfold qfPl
  rw [qset_one, qfStS_163]
  unfold qfStS
  rw [qfrom_step hk, qB_t h, qset_ins e, qset_ins e, qset_qup (r := 1000 + f) (r0 := 70) (by omega), qset_qup (r := 163) (r0 := 1000 + f) (by omega), qset_qup (r := 163) (r0 := 70) (by decide), qset_qup (r := 163) (r0 := 1000 + f) (by omega), qset_qup (r := 163) (r0 := 70) (by decide), qup_comm (r := 1000 + f) (r2 := 163) (by omega), qup_qup, Nat.add_assoc]
