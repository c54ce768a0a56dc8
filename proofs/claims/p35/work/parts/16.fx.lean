/-! what the store's methods do to its state -/
theorem qWF.up {σ : QSt} (h : qWF σ) (r i v : Nat) (h1 : 64 ≤ r) (hv : v < 1073741824) (hx : r ≠ 64 ∧ r ≠ 66 ∧ r ≠ 67 ∧ r ≠ 80 ∧ r ≠ 81 ∧ r ≠ 82 ∧ r ≠ 146 ∧ r ≠ 160) (h68 : r = 68 → v < σ 0 1) (h69 : r = 69 → v < 128) (h131 : r = 131 → v < 128) (h134 : r = 134 → v ≤ σ 0 3) : qWF (qup σ r i v) := by
  obtain ⟨g1, g2, g3, g4, g5, g6, g7, g8, g9⟩ := h
  have e0 : ∀ j, qup σ r i v 0 j = σ 0 j := fun j => qup_k (by omega)
  have e1 : ∀ j, qup σ r i v 1 j = σ 1 j := fun j => qup_k (by omega)
  have e32 : ∀ j, qup σ r i v 32 j = σ 32 j := fun j => qup_k (by omega)
  have ex : ∀ q j, q ≠ r → qup σ r i v q j = σ q j := fun q j hq => qup_k hq
  refine ⟨fun q j => ?_, by rw [e0, e0, e0, e0, e0]; exact g2, fun j => by rw [e0, e32]; exact g3 j, fun j hj => ?_, fun f hf => ?_, fun a ha => ?_, fun j hj => ?_, fun a ha => ?_, fun j => by rw [e0, e32]; exact g9 j⟩
  · unfold qup; split
    · exact hv
    · exact g1 q j
  · rw [e0] at hj ⊢
    by_cases c : r = 68 ∧ j = i
    · rw [c.1, c.2, qup_s]; exact h68 c.1
    · rw [show qup σ r i v 68 j = σ 68 j from if_neg (fun z => c ⟨z.1.symm, z.2⟩)]; exact g4 j hj
  · rw [e0] at hf ⊢; rw [ex 160 f (by omega)]; exact g5 f hf
  · rw [e0] at ha ⊢
    by_cases c : r = 134 ∧ a = i
    · rw [c.1, c.2, qup_s]; exact h134 c.1
    · rw [show qup σ r i v 134 a = σ 134 a from if_neg (fun z => c ⟨z.1.symm, z.2⟩)]; exact g6 a ha
  · rw [e0] at hj
    rw [ex 67 j (by omega), e1, ex 64 j (by omega), ex 80 j (by omega), ex 81 j (by omega), ex 82 j (by omega), ex 66 j (by omega)]
    have g := g7 j hj
    refine ⟨g.1, g.2.1, g.2.2.1, g.2.2.2.1, g.2.2.2.2.1, ?_, g.2.2.2.2.2.2⟩
    by_cases c : r = 69 ∧ j = i
    · rw [c.1, c.2, qup_s]; exact h69 c.1
    · rw [show qup σ r i v 69 j = σ 69 j from if_neg (fun z => c ⟨z.1.symm, z.2⟩)]; exact g.2.2.2.2.2.1
  · rw [e0] at ha
    rw [ex 146 a (by omega)]
    refine ⟨(g8 a ha).1, ?_⟩
    by_cases c : r = 131 ∧ a = i
    · rw [c.1, c.2, qup_s]; exact h131 c.1
    · rw [show qup σ r i v 131 a = σ 131 a from if_neg (fun z => c ⟨z.1.symm, z.2⟩)]; exact (g8 a ha).2
theorem qup_qup (f : QSt) (k j v w : Nat) : qup (qup f k j v) k j w = qup f k j w := by
  funext a b
  unfold qup
  split <;> rfl
/-- countIfDue -/
def qfCd (σ : QSt) (a l0 : Nat) : QSt := if qcn σ a l0 then qup (qup σ 132 a (σ 132 a + 1)) 70 l0 (σ 70 l0 + 1) else σ
/-- shortenHold -/
def qfSh (σ : QSt) (a : Nat) : QSt := if σ 131 a = 104 then (if 1 < σ 133 a then qup σ 133 a (σ 133 a - 1) else qup (qup σ 133 a 0) 131 a 113) else σ
/-- a row changed at the places of a kind -/
def qset (σ : QSt) (r0 : Nat) (P : Nat → Prop) [DecidablePred P] (v : Nat → Nat) : QSt := fun r j => if r = r0 ∧ P j then v j else σ r j
theorem qset_k {σ : QSt} {r0 r j : Nat} {P : Nat → Prop} [DecidablePred P] {v : Nat → Nat} (h : r ≠ r0) : qset σ r0 P v r j = σ r j := if_neg (fun z => h z.1)
theorem qset_in {σ : QSt} {r0 j : Nat} {P : Nat → Prop} [DecidablePred P] {v : Nat → Nat} (h : P j) : qset σ r0 P v r0 j = v j := if_pos ⟨rfl, h⟩
theorem qset_out {σ : QSt} {r0 j : Nat} {P : Nat → Prop} [DecidablePred P] {v : Nat → Nat} (h : ¬ P j) : qset σ r0 P v r0 j = σ r0 j := if_neg (fun z => h z.2)
theorem qset_none {σ : QSt} {r0 : Nat} {P : Nat → Prop} [DecidablePred P] {v : Nat → Nat} (h : ∀ j, ¬ P j) : qset σ r0 P v = σ := by
  funext r j
  exact if_neg (fun z => h j z.2)
theorem qset_eq {σ : QSt} {r0 : Nat} {P O : Nat → Prop} [DecidablePred P] [DecidablePred O] {v : Nat → Nat} (h : ∀ j, P j ↔ O j) : qset σ r0 P v = qset σ r0 O v := by
  funext r j
  unfold qset
  by_cases c : r = r0 ∧ P j
  · rw [if_pos c, if_pos ⟨c.1, (h j).mp c.2⟩]
  · rw [if_neg c, if_neg (fun z => c ⟨z.1, (h j).mpr z.2⟩)]
theorem qset_ins {σ : QSt} {r0 i : Nat} {P O : Nat → Prop} [DecidablePred P] [DecidablePred O] {v : Nat → Nat} (h : ∀ j, O j ↔ (P j ∨ j = i)) : qset σ r0 O v = qup (qset σ r0 P v) r0 i (v i) := by
  funext r j
  by_cases c : r = r0
  · subst c
    by_cases d : j = i
    · subst d
      rw [qset_in ((h j).mpr (Or.inr rfl)), qup_s]
    · rw [qup_j d]
      by_cases q : P j
      · rw [qset_in ((h j).mpr (Or.inl q)), qset_in q]
      · rw [qset_out (fun z => ((h j).mp z).elim q d), qset_out q]
  · rw [qset_k c, qup_k c, qset_k c]
theorem qWF.set {σ : QSt} (h : qWF σ) (r0 : Nat) (P : Nat → Prop) [DecidablePred P] (v : Nat → Nat) (h1 : 64 ≤ r0) (hv : ∀ j, P j → v j < 1073741824) (hx : r0 ≠ 64 ∧ r0 ≠ 66 ∧ r0 ≠ 67 ∧ r0 ≠ 68 ∧ r0 ≠ 69 ∧ r0 ≠ 80 ∧ r0 ≠ 81 ∧ r0 ≠ 82 ∧ r0 ≠ 131 ∧ r0 ≠ 134 ∧ r0 ≠ 146 ∧ r0 ≠ 160) : qWF (qset σ r0 P v) := by
  obtain ⟨g1, g2, g3, g4, g5, g6, g7, g8, g9⟩ := h
  have e : ∀ q j, q ≠ r0 → qset σ r0 P v q j = σ q j := fun q j hq => qset_k hq
  have e0 : ∀ j, qset σ r0 P v 0 j = σ 0 j := fun j => e 0 j (by omega)
  refine ⟨fun q j => ?_, by rw [e0, e0, e0, e0, e0]; exact g2, fun j => by rw [e0, e 32 j (by omega)]; exact g3 j, fun j hj => by rw [e0] at hj ⊢; rw [e 68 j (by omega)]; exact g4 j hj, fun f hf => by rw [e0] at hf ⊢; rw [e 160 f (by omega)]; exact g5 f hf, fun a ha => by rw [e0] at ha ⊢; rw [e 134 a (by omega)]; exact g6 a ha, fun j hj => by rw [e0] at hj; rw [e 67 j (by omega), e 1 0 (by omega), e 64 j (by omega), e 80 j (by omega), e 81 j (by omega), e 82 j (by omega), e 69 j (by omega), e 66 j (by omega)]; exact g7 j hj, fun a ha => by rw [e0] at ha; rw [e 146 a (by omega), e 131 a (by omega)]; exact g8 a ha, fun j => by rw [e0, e 32 j (by omega)]; exact g9 j⟩
  unfold qset; split
  · rename_i c; exact hv j c.2
  · exact g1 q j
/-! bits: what is written -/
theorem qbv_congr (f g : Nat → Nat) (o : Nat) : ∀ n, (∀ b, b < n → (f (o + b) = 1 ↔ g (o + b) = 1)) → qbv f o n = qbv g o n
  | 0, _ => rfl
  | n + 1, h => by
    have ih := qbv_congr f g o n (fun b hb => h b (by omega))
    have hn := h n (by omega)
    unfold qbv
    by_cases c : f (o + n) = 1
    · rw [if_pos c, if_pos (hn.mp c), ih]
    · rw [if_neg c, if_neg (fun z => c (hn.mpr z)), ih]
theorem qbits_congr {f g : Nat → Nat} {k w : Nat} (h : ∀ b, b < k → (f (k * w + b) = 1 ↔ g (k * w + b) = 1)) : qbits f k w = qbits g k w := by
  unfold qbits
  rw [qbv_congr f g (k * w) k h]
theorem qbv_zero (f : Nat → Nat) (o : Nat) : ∀ n, (∀ b, b < n → f (o + b) ≠ 1) → qbv f o n = 0#64
  | 0, _ => rfl
  | n + 1, h => by
    unfold qbv
    rw [if_neg (h n (by omega)), qbv_zero f o n (fun b hb => h b (by omega))]
theorem q_shl64 : ∀ b, b < 64 → ((1 : Int64) <<< lN b).toBitVec = BitVec.twoPow 64 b := by decide +kernel
theorem q_setbit {F : Nat → Nat} {k l : Nat} (hk : 0 < k) (hk2 : k ≤ 64) : qbits F k (l / k) ||| ((1 : Int64) <<< ((nI (l % k)).toInt64 &&& 63)) = qbits (fun j => if j = l then 1 else F j) k (l / k) := by
  have hb : l % k < k := Nat.mod_lt _ hk
  rw [(q_sh64 (l % k) (by omega)).1]
  apply Int64.toBitVec_inj.mp
  rw [Int64.toBitVec_or, q_shl64 _ (by omega)]
  apply BitVec.eq_of_getLsbD_eq
  intro i hi
  rw [BitVec.getLsbD_or, qbits_get _ _ _ _ hk2, qbits_get _ _ _ _ hk2, BitVec.getLsbD_twoPow]
  have hl : k * (l / k) + l % k = l := Nat.div_add_mod l k
  by_cases c : l % k = i
  · subst c
    rw [hl]
    simp [hb]
    omega
  · have e1 : ¬ k * (l / k) + i = l := by omega
    rw [if_neg e1, decide_eq_false c]
    simp
theorem q_setbits {F : Nat → Nat} {k l : Nat} (hk : 0 < k) (hk2 : k ≤ 64) : vp_updL (qbits F k) (l / k) (qbits F k (l / k) ||| ((1 : Int64) <<< ((nI (l % k)).toInt64 &&& 63))) = qbits (fun j => if j = l then 1 else F j) k := by
  funext w
  unfold vp_updL
  by_cases c : w = l / k
  · rw [if_pos c, c]
    exact q_setbit hk hk2
  · rw [if_neg c]
    refine qbits_congr (fun b hb => ?_)
    have e : ¬ k * w + b = l := fun z => c (by rw [← z, Nat.mul_add_div hk, Nat.div_eq_of_lt hb, Nat.add_zero])
    rw [if_neg e]
theorem qLW.upB {G : QG} {es : Nat} {A : Nat → Prop} {σ σ' ad : QSt} {H H1 : Heap} (h : qLW G es A σ ad H) (f : Nat) (hrow : ∀ r, r ≠ 1000 + f → σ' r = σ r) {e0 e1 : va_E} (hv : qLV G es σ ad 11 f = some e0) (hs : qLV G es σ' ad 11 f = some e1) (he : va_at G.1 vwCl (ad 11 f, e1) H1) (oq : ∀ q, q ≠ ad 11 f → H1[q]? = H[q]?) : qLW G es A σ' ad H1 := by
  have hr : ∀ r j, r ≠ 1000 + f → σ' r j = σ r j := fun r j hr => by rw [hrow r hr]
  refine qPW.put h hv he oq hs (fun k j hne => ?_)
  by_cases hk : k < 14
  · exact qLV_row (fun q g1 g2 => hr q j (by omega)) (fun q => hr 0 q (by omega)) (fun _ => hr 32 j (by omega)) (fun _ => hr 1 0 (by omega)) (fun _ q => hr 48 q (by omega)) (fun e q => hr _ q (fun z => hne ⟨e, by omega⟩))
  · obtain ⟨n, rfl⟩ : ∃ n, k = n + 14 := ⟨k - 14, by omega⟩
    rfl
/-- clearLines -/
def qfCl (σ : QSt) (f : Nat) : QSt := qup (qset σ (1000 + f) (fun l => l < 64 * 4) (fun _ => 0)) 163 f 0
/-- putLine -/
def qfPl (σ : QSt) (f l0 : Nat) : QSt := qup (qset σ (1000 + f) (fun l => l = l0) (fun _ => 1)) 163 f (σ 163 f + 1)
/-- giveUpLines -/
def qfGu (σ : QSt) (f : Nat) : QSt := qfCl (qset σ 70 (fun l => l < σ 0 0 ∧ σ (1000 + f) l = 1) (fun l => σ 70 l - 1)) f
/-! sums -/
theorem qsum_upd {f g : Nat → Nat} {l0 : Nat} (h : ∀ l, l ≠ l0 → g l = f l) : ∀ n, l0 < n → qsum g n + f l0 = qsum f n + g l0
  | 0, hl => absurd hl (by omega)
  | n + 1, hl => by
    rw [qsum, qsum]
    by_cases c : l0 = n
    · subst c
      have e : ∀ m, m ≤ l0 → qsum g m = qsum f m := by
        intro m hm
        induction m with
        | zero => rfl
        | succ m ih => rw [qsum, qsum, ih (by omega), h m (by omega)]
      rw [e l0 (Nat.le_refl _)]
      omega
    · have ih := qsum_upd h n (by omega)
      have := h n (fun z => c z.symm)
      omega
theorem qsum_congr {f g : Nat → Nat} : ∀ n, (∀ l, l < n → g l = f l) → qsum g n = qsum f n
  | 0, _ => rfl
  | n + 1, h => by rw [qsum, qsum, qsum_congr n (fun l hl => h l (by omega)), h n (by omega)]
theorem qsum_le1 {f : Nat → Nat} {l0 : Nat} : ∀ n, l0 < n → f l0 ≤ qsum f n
  | 0, hl => absurd hl (by omega)
  | n + 1, hl => by
    rw [qsum]
    by_cases c : l0 = n
    · subst c; omega
    · have := qsum_le1 (f := f) n (show l0 < n by omega); omega
/-- lookAtSource: the state and how many are dropped -/
def qfLs (σ : QSt) (s0 : Nat) : Nat → QSt × Nat
  | 0 => (σ, 0)
  | n + 1 => if σ 48 s0 < qkept σ s0 then (match qnd σ s0 (σ 0 0) with
    | none => (σ, 0)
    | some l => ((qfLs (qup σ 69 l 100) s0 n).1, (qfLs (qup σ 69 l 100) s0 n).2 + 1)) else (σ, 0)
theorem qnd_is (σ : QSt) (s0 : Nat) : ∀ n k, qnd σ s0 n = some k → k < n ∧ σ 64 k = s0 ∧ σ 69 k = 107 ∧ σ 70 k = 0
  | 0, k, h => by simp [qnd] at h
  | n + 1, k, h => by
    have ih := qnd_is σ s0 n
    unfold qnd at h
    cases hq : qnd σ s0 n with
    | none =>
      rw [hq] at h
      dsimp only at h
      split at h
      · rename_i c; cases h; exact ⟨by omega, c.1, c.2.1, c.2.2⟩
      · cases h
    | some j =>
      rw [hq] at h
      dsimp only at h
      have := ih j hq
      split at h
      · rename_i c; cases h; exact ⟨by omega, c.1, c.2.1, c.2.2.1⟩
      · cases h; exact ⟨by omega, this.2⟩
theorem qkept_drop {σ : QSt} {s0 l : Nat} (hl : l < σ 0 0) (h1 : σ 64 l = s0) (h2 : σ 69 l = 107) : qkept (qup σ 69 l 100) s0 + σ 66 l = qkept σ s0 := by
  have h := qsum_upd (f := qkp σ s0) (g := qkp (qup σ 69 l 100) s0) (l0 := l) (fun j hj => by
    unfold qkp
    rw [qup_k (by omega), qup_j hj, qup_k (by omega)]) (σ 0 0) hl
  have e1 : qkp σ s0 l = σ 66 l := if_pos ⟨h1, h2⟩
  have e2 : qkp (qup σ 69 l 100) s0 l = 0 := if_neg (fun z => by rw [qup_s] at z; exact absurd z.2 (by decide))
  rw [e1, e2] at h
  exact h
theorem q_subpos {a b : Nat} (ha : a < 1073741824) (hb : b < 1073741824) : nI a - nI b ≤ 0 ↔ a ≤ b := by
  rw [Int32.le_iff_toInt_le, pk_sub_toInt (by omega) (by omega)]
  show (a : Int) - b ≤ 0 ↔ _
  omega
theorem q_subsub {a b d : Nat} (h : d ≤ a) : nI a - nI b - nI d = nI (a - d) - nI b := by
  have e : nI a = nI (a - d) + nI d := by rw [nI_add, Nat.sub_add_cancel h]
  rw [e]
  rw [← Int32.toBitVec_inj]
  simp only [Int32.toBitVec_sub, Int32.toBitVec_add]
  generalize (nI (a - d)).toBitVec = x
  generalize (nI b).toBitVec = y
  generalize (nI d).toBitVec = z
  rw [BitVec.sub_eq_add_neg, BitVec.sub_eq_add_neg, BitVec.sub_eq_add_neg, BitVec.add_assoc, BitVec.add_assoc, BitVec.add_comm (-y) (-z), ← BitVec.add_assoc z, BitVec.add_right_neg, BitVec.zero_add]
theorem qset_row {σ : QSt} {r0 : Nat} {P : Nat → Prop} [DecidablePred P] {v : Nat → Nat} : qset σ r0 P v r0 = fun j => if P j then v j else σ r0 j := by
  funext j
  by_cases c : P j
  · rw [qset_in c, if_pos c]
  · rw [qset_out c, if_neg c]
theorem q_clr (σ : QSt) (r0 i : Nat) : vp_updL (qbits (qset σ r0 (fun l => l < 64 * i) (fun _ => 0) r0) 64) i (lN 0) = qbits (qset σ r0 (fun l => l < 64 * (i + 1)) (fun _ => 0) r0) 64 := by
  funext w
  unfold vp_updL
  rw [qset_row, qset_row]
  by_cases c : w = i
  · rw [if_pos c, c]
    unfold qbits
    rw [qbv_zero _ _ _ (fun b hb => by rw [if_pos (by omega)]; decide)]
    rfl
  · rw [if_neg c]
    refine qbits_congr (fun b hb => ?_)
    have e : 64 * w + b < 64 * i ↔ 64 * w + b < 64 * (i + 1) := by omega
    by_cases d : 64 * w + b < 64 * i
    · rw [if_pos d, if_pos (e.mp d)]
    · rw [if_neg d, if_neg (fun z => d (e.mpr z))]
theorem qsum_bound {f : Nat → Nat} {b : Nat} : ∀ n, (∀ l, l < n → f l ≤ b) → qsum f n ≤ n * b
  | 0, _ => by simp [qsum]
  | n + 1, h => by
    have h1 := qsum_bound n (fun l hl => h l (by omega))
    have h2 := h n (by omega)
    rw [qsum, Nat.succ_mul]
    omega
theorem qkept_lt {σ : QSt} (h : qWF σ) (s0 : Nat) : qkept σ s0 < 1073741824 := by
  have h1 : qkept σ s0 ≤ σ 0 0 * 99 := qsum_bound _ (fun l hl => by
    unfold qkp
    split
    · exact h.byt hl
    · omega)
  have h2 := h.n.1
  omega
/-! forgetLeavers -/
/-- a line that leaves the window of an alert at this tick -/
abbrev qlv (σ : QSt) (a l : Nat) : Prop := σ 67 l + σ 129 a = σ 1 0 ∧ σ 69 l ≠ 100 ∧ qtk σ (σ 144 a) (σ 145 a) (σ 146 a) (σ 147 a) l
/-- how many of the places from i on, below n -/
def qfrom (P : Nat → Prop) [DecidablePred P] (i n : Nat) : Nat := qsum (fun l => qB (i ≤ l ∧ P l)) n
theorem qfrom_step {P : Nat → Prop} [DecidablePred P] {i n : Nat} (hi : i < n) : qfrom P i n = qfrom P (i + 1) n + qB (P i) := by
  have h := qsum_upd (f := fun l => qB (i + 1 ≤ l ∧ P l)) (g := fun l => qB (i ≤ l ∧ P l)) (l0 := i) (fun l hl => by
    show qB _ = qB _
    by_cases c : i ≤ l ∧ P l
    · rw [qB_t c, qB_t ⟨by omega, c.2⟩]
    · rw [qB_f c, qB_f (fun z => c ⟨by omega, z.2⟩)]) n hi
  have e1 : qB (i + 1 ≤ i ∧ P i) = 0 := qB_f (fun z => absurd z.1 (by omega))
  have e2 : qB (i ≤ i ∧ P i) = qB (P i) := qB_c ⟨fun z => z.2, fun z => ⟨Nat.le_refl _, z⟩⟩
  have h2 : qsum (fun l => qB (i ≤ l ∧ P l)) n + qB (i + 1 ≤ i ∧ P i) = qsum (fun l => qB (i + 1 ≤ l ∧ P l)) n + qB (i ≤ i ∧ P i) := h
  rw [e1, e2] at h2
  exact h2
theorem qfrom_top {P : Nat → Prop} [DecidablePred P] {n : Nat} : qfrom P n n = 0 := by
  have h : qfrom P n n ≤ n * 0 := qsum_bound n (fun l hl => by rw [qB_f (fun z => absurd z.1 (by omega))]; exact Nat.le_refl 0)
  omega
theorem qfrom_mono {P : Nat → Prop} [DecidablePred P] {i j n : Nat} (h : i ≤ j) (hn : ∀ l, i ≤ l → l < j → ¬ P l) : qfrom P i n = qfrom P j n := qsum_congr n (fun l _ => by
  by_cases c : j ≤ l ∧ P l
  · rw [qB_t c, qB_t ⟨by omega, c.2⟩]
  · rw [qB_f c, qB_f (fun z => c ⟨Classical.byContradiction fun q => hn l z.1 (by omega) z.2, z.2⟩)])
def qfFlS (σ : QSt) (a i : Nat) : QSt := qset (qup σ 132 a (σ 132 a - qfrom (qlv σ a) i (σ 0 0))) 70 (fun l => i ≤ l ∧ l < σ 0 0 ∧ qlv σ a l) (fun l => σ 70 l - 1)
def qfFl (σ : QSt) (a : Nat) : QSt := qfFlS σ a 0
theorem qfFlS_top (σ : QSt) (a : Nat) : qfFlS σ a (σ 0 0) = σ := by
  unfold qfFlS
  rw [qset_none (fun j => by omega), qfrom_top, Nat.sub_zero]
  funext r j
  unfold qup
  split
  · rename_i c; rw [c.1, c.2]
  · rfl
theorem qfFlS_no {σ : QSt} {a i j : Nat} (h : i ≤ j) (hn : ∀ l, i ≤ l → l < j → ¬ qlv σ a l) : qfFlS σ a i = qfFlS σ a j := by
  unfold qfFlS
  rw [qfrom_mono h hn]
  exact qset_eq (fun l => ⟨fun z => ⟨Classical.byContradiction fun q => hn l z.1 (by omega) z.2.2, z.2⟩, fun z => ⟨by omega, z.2⟩⟩)
theorem qfFlS_wf {σ : QSt} (h : qWF σ) (a i : Nat) : qWF (qfFlS σ a i) := by
  have h1 : qWF (qup σ 132 a (σ 132 a - qfrom (qlv σ a) i (σ 0 0))) := h.up 132 a _ (by decide) (Nat.lt_of_le_of_lt (Nat.sub_le _ _) (h.b 132 a)) (by decide) (fun z => absurd z (by decide)) (fun z => absurd z (by decide)) (fun z => absurd z (by decide)) (fun z => absurd z (by decide))
  exact h1.set 70 _ _ (by decide) (fun j _ => Nat.lt_of_le_of_lt (Nat.sub_le _ _) (h.b 70 j)) (by decide)
theorem qfFlS_r (σ : QSt) (a i : Nat) {r : Nat} (j : Nat) (h1 : r ≠ 70) (h2 : r ≠ 132) : qfFlS σ a i r j = σ r j := by
  unfold qfFlS
  rw [qset_k h1, qup_k h2]
theorem q_subI {c n w : Nat} (hc : c < 1073741824) (hn : n < 1073741824) (hw : w < 1073741824) : (nI c < nI n - nI w ↔ c + w < n) ∧ (nI c = nI n - nI w ↔ c + w = n) := by
  have e1 := pk_sub_toInt (a := n) (b := w) (by omega) (by omega)
  have e2 : (nI c).toInt = (c : Int) := nI_toInt (by omega)
  constructor
  · rw [Int32.lt_iff_toInt_lt, e1, e2]; omega
  · rw [← Int32.toInt_inj, e1, e2]; omega
/-! answerRequests -/
abbrev qdu (σ : QSt) (x : Nat) : Prop := σ 193 x = 0 ∧ σ 192 x ≤ σ 1 0
def qfArS (σ : QSt) (i : Nat) : QSt := qset (qset σ 193 (fun x => x < i ∧ qdu σ x) (fun _ => 1)) 194 (fun x => x < i ∧ qdu σ x) (fun x => qarch σ (σ 208 x) (σ 209 x) 0 0)
def qfAr (σ : QSt) : QSt := qfArS σ (σ 0 4)
theorem qarch_lt {σ : QSt} (h : qWF σ) (s0 r0 P w0 : Nat) : qarch σ s0 r0 P w0 ≤ 200 := by
  have h1 : qarch σ s0 r0 P w0 ≤ σ 0 0 * 1 := qsum_bound _ (fun l _ => qB_le)
  have h2 := h.n.1
  omega
theorem qfArS_r (σ : QSt) (i : Nat) {r : Nat} (j : Nat) (h1 : r ≠ 193) (h2 : r ≠ 194) : qfArS σ i r j = σ r j := by
  unfold qfArS
  rw [qset_k h2, qset_k h1]
theorem qfArS_wf {σ : QSt} (h : qWF σ) (i : Nat) : qWF (qfArS σ i) := by
  have h1 : qWF (qset σ 193 (fun x => x < i ∧ qdu σ x) (fun _ => 1)) := h.set 193 _ _ (by decide) (fun j _ => by decide) (by decide)
  exact h1.set 194 _ _ (by decide) (fun j _ => by have := qarch_lt h (σ 208 j) (σ 209 j) 0 0; omega) (by decide)
theorem qarch_congr {σ τ : QSt} (h : ∀ r j, 64 ≤ r → r < 96 → τ r j = σ r j) (h0 : τ 0 0 = σ 0 0) (s0 r0 P w0 : Nat) (hP : P ≤ 3) : qarch τ s0 r0 P w0 = qarch σ s0 r0 P w0 := by
  unfold qarch
  rw [h0]
  refine qsum_congr _ (fun l _ => ?_)
  refine qB_c ?_
  unfold qtk
  rw [h 69 l (by decide) (by decide), h 64 l (by decide) (by decide), h 65 l (by decide) (by decide), h (80 + (P - 1)) l (by omega) (by omega)]
/-! standOnCounted -/
abbrev qnw (σ : QSt) (a f l : Nat) : Prop := qcn σ a l ∧ σ (1000 + f) l ≠ 1
def qfStS (σ : QSt) (a f i : Nat) : QSt := qset (qset (qup σ 163 f (σ 163 f + qfrom (qnw σ a f) i (σ 0 0))) (1000 + f) (fun l => i ≤ l ∧ l < σ 0 0 ∧ qnw σ a f l) (fun _ => 1)) 70 (fun l => i ≤ l ∧ l < σ 0 0 ∧ qnw σ a f l) (fun l => σ 70 l + 1)
def qfSt (σ : QSt) (a f : Nat) : QSt := qfStS σ a f 0
theorem qfStS_top (σ : QSt) (a f : Nat) : qfStS σ a f (σ 0 0) = σ := by
  unfold qfStS
  rw [qset_none (fun j => by omega), qset_none (fun j => by omega), qfrom_top, Nat.add_zero]
  funext r j
  unfold qup
  split
  · rename_i c; rw [c.1, c.2]
  · rfl
theorem qfStS_no {σ : QSt} {a f i j : Nat} (h : i ≤ j) (hn : ∀ l, i ≤ l → l < j → ¬ qnw σ a f l) : qfStS σ a f i = qfStS σ a f j := by
  unfold qfStS
  have e : ∀ l, (i ≤ l ∧ l < σ 0 0 ∧ qnw σ a f l) ↔ (j ≤ l ∧ l < σ 0 0 ∧ qnw σ a f l) := fun l => ⟨fun z => ⟨Classical.byContradiction fun q => hn l z.1 (by omega) z.2.2, z.2⟩, fun z => ⟨by omega, z.2⟩⟩
  rw [qfrom_mono h hn, qset_eq e, qset_eq e]
theorem qfStS_r (σ : QSt) (a f i : Nat) {r : Nat} (j : Nat) (h1 : r ≠ 70) (h2 : r ≠ 163) (h3 : r ≠ 1000 + f) : qfStS σ a f i r j = σ r j := by
  unfold qfStS
  rw [qset_k h1, qset_k h3, qup_k h2]
theorem qfrom_le {P : Nat → Prop} [DecidablePred P] (i n : Nat) : qfrom P i n ≤ n := by
  have h : qfrom P i n ≤ n * 1 := qsum_bound n (fun l _ => qB_le)
  omega
theorem qfStS_wf {σ : QSt} (h : qWF σ) (a f i : Nat) (hs : σ 163 f ≤ 1000000) (hg : ∀ l, σ 70 l ≤ 1000000) : qWF (qfStS σ a f i) := by
  have hn := h.n.1
  have h2 := qfrom_le (P := qnw σ a f) i (σ 0 0)
  have h1 : qWF (qup σ 163 f (σ 163 f + qfrom (qnw σ a f) i (σ 0 0))) := h.up 163 f _ (by decide) (by omega) (by decide) (fun z => absurd z (by decide)) (fun z => absurd z (by decide)) (fun z => absurd z (by decide)) (fun z => absurd z (by decide))
  have h3 := h1.set (1000 + f) (fun l => i ≤ l ∧ l < σ 0 0 ∧ qnw σ a f l) (fun _ => 1) (by omega) (fun j _ => by decide) (by omega)
  exact h3.set 70 _ _ (by decide) (fun j _ => by have := hg j; show σ 70 j + 1 < _; omega) (by decide)
