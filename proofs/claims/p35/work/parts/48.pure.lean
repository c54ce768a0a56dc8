/-! pure parts of 48.refw -/
/-! what a row holds behind a store -/
theorem r_upd (ρ : QSt) (r i v : Nat) : upd (fun j => nI (ρ r j)) i (nI v) = fun j => nI (qup ρ r i v r j) := by
  funext j
  by_cases c : j = i
  · subst c; simp [upd, qup_s]
  · simp [upd, c, qup_j c]
theorem r_updm (ρ : QSt) (r i v : Nat) : upd (fun j => nI (ρ r j) - 1) i (nI v - 1) = fun j => nI (qup ρ r i v r j) - 1 := by
  funext j
  by_cases c : j = i
  · subst c; simp [upd, qup_s]
  · simp [upd, c, qup_j c]
theorem r_upd3 (ρ : QSt) (r l k v : Nat) (hk : k < 3) : upd (fun j => nI (ρ (r + j % 3) (j / 3))) (3 * l + k) (nI v) = fun j => nI (qup ρ (r + k) l v (r + j % 3) (j / 3)) := by
  funext j
  by_cases c : j = 3 * l + k
  · subst c
    rw [show (3 * l + k) % 3 = k by omega, show (3 * l + k) / 3 = l by omega, qup_s]
    simp [upd]
  · have e : qup ρ (r + k) l v (r + j % 3) (j / 3) = ρ (r + j % 3) (j / 3) := if_neg (fun z => c (by omega))
    rw [e]
    simp [upd, c]
theorem r_upd3m (ρ : QSt) (r l k v : Nat) (hk : k < 3) : upd (fun j => nI (ρ (r + j % 3) (j / 3)) - 1) (3 * l + k) (nI v - 1) = fun j => nI (qup ρ (r + k) l v (r + j % 3) (j / 3)) - 1 := by
  funext j
  by_cases c : j = 3 * l + k
  · subst c
    rw [show (3 * l + k) % 3 = k by omega, show (3 * l + k) / 3 = l by omega, qup_s]
    simp [upd]
  · have e : qup ρ (r + k) l v (r + j % 3) (j / 3) = ρ (r + j % 3) (j / 3) := if_neg (fun z => c (by omega))
    rw [e]
    simp [upd, c]
theorem r_m1 : (-1 : Int32) = nI 0 - 1 := by decide
section RR
variable {p : Program} {l : Launch} {e : Env} {R : Room} {s : State} {m : MethodId} {args : Array Value} {below : List Frame} {meth : Method} {c : Code} {H : Heap} {locs : List Loc} {cells slots : Nat} {Q : State → Prop}
variable {cc : ByteArray} {pc : Nat} {ls : Array Slot} {rest : List Value} {D : va_G} {cl : List vw_C} {a : Nat} {tys : List (ClassId × FieldType)}
/-- compares whose meaning is told -/
theorem q_eqP (hexec : p.tables.exec = Jvm.exec) (hb : c.code = cc) {x y : Int32} {P : Prop} (hP : x = y ↔ P) {off : Int} {tgt : Nat} (hdg : decode cc pc = .ok (.if_icmp .eq off, 3)) (ht : (pc : Int) + off = (tgt : Int))
    (kt : P → W p l e R s m args below meth c H locs cells slots Q (F0 m tgt ls rest)) (kf : ¬ P → W p l e R s m args below meth c H locs cells slots Q (F0 m (pc + 3) ls rest)) : W p l e R s m args below meth c H locs cells slots Q (F0 m pc ls (.int y :: .int x :: rest)) :=
  lv_icmp_eq hexec hb hdg ht (fun z => kt (hP.mp z)) (fun z => kf (fun h => z (hP.mpr h)))
theorem q_neP (hexec : p.tables.exec = Jvm.exec) (hb : c.code = cc) {x y : Int32} {P : Prop} (hP : x = y ↔ P) {off : Int} {tgt : Nat} (hdg : decode cc pc = .ok (.if_icmp .ne off, 3)) (ht : (pc : Int) + off = (tgt : Int))
    (kt : ¬ P → W p l e R s m args below meth c H locs cells slots Q (F0 m tgt ls rest)) (kf : P → W p l e R s m args below meth c H locs cells slots Q (F0 m (pc + 3) ls rest)) : W p l e R s m args below meth c H locs cells slots Q (F0 m pc ls (.int y :: .int x :: rest)) :=
  lv_icmp_ne hexec hb hdg ht (fun z => kt (fun h => z (hP.mpr h))) (fun z => kf (hP.mp z))
/-- loads of a row's place, the number told -/
theorem r_iald (hexec : p.tables.exec = Jvm.exec) (hb : c.code = cc) (hK : va_K D cl tys s) {cA : ClassId} {n : Nat} {f : Nat → Int32} (hat : va_at D cl (a, .inl (cA, n, .inl f)) H) (t0 : Nat) (ht : tys[t0]? = some (cA, .int)) {i : Nat} (hi : i < n) (hn : n < 2 ^ 31) {v : Int32} (hv : f i = v) (hdg : decode cc pc = .ok (.iaload, 1))
    (kk : W p l e R s m args below meth c H locs cells slots Q (F0 m (pc + 1) ls (.int v :: rest))) : W p l e R s m args below meth c H locs cells slots Q (F0 m pc ls (.int (nI i) :: .ref a :: rest)) :=
  va_iald hexec hb hK (va_P1 hat) 0 t0 rfl ht (vp_in_nI hi hn) hdg (q_ti (y := v) (by rw [nI_clamp (by omega)]; exact hv) kk)
theorem r_zald (hexec : p.tables.exec = Jvm.exec) (hb : c.code = cc) (hK : va_K D cl tys s) {cA : ClassId} {n : Nat} {f : Nat → Int32} (hat : va_at D cl (a, .inl (cA, n, .inl f)) H) (t0 : Nat) (ht : tys[t0]? = some (cA, .boolean)) {i : Nat} (hi : i < n) (hn : n < 2 ^ 31) {v : Int32} (hv : f i = v) (hdg : decode cc pc = .ok (.baload, 1))
    (kk : W p l e R s m args below meth c H locs cells slots Q (F0 m (pc + 1) ls (.int v :: rest))) : W p l e R s m args below meth c H locs cells slots Q (F0 m pc ls (.int (nI i) :: .ref a :: rest)) :=
  va_zald hexec hb hK (va_P1 hat) 0 t0 rfl ht (vp_in_nI hi hn) hdg (q_ti (y := v) (by rw [nI_clamp (by omega)]; exact hv) kk)
end RR
/-- bounds of the reference's state -/
def rWF (ρ : QSt) : Prop := (∀ r i, ρ r i < 1073741824) ∧ (ρ 0 0 ≤ 200 ∧ ρ 0 1 ≤ 200 ∧ ρ 0 2 ≤ 6 ∧ ρ 0 3 ≤ 1300 ∧ ρ 0 4 ≤ 20) ∧ (∀ j, j < ρ 0 0 → ρ 67 j ≤ ρ 1 0 ∧ ρ 66 j ≤ 99) ∧ (∀ a, a < ρ 0 2 → ρ 146 a ≤ 3 ∧ (ρ 131 a ≠ 113 → ρ 135 a < ρ 0 3) ∧ (ρ 131 a = 104 → 1 ≤ ρ 133 a)) ∧ (∀ f, f < ρ 0 3 → ρ 160 f < ρ 0 2)
theorem rWF.b {ρ : QSt} (h : rWF ρ) (r i : Nat) : ρ r i < 1073741824 := h.1 r i
theorem rWF.n {ρ : QSt} (h : rWF ρ) : ρ 0 0 ≤ 200 ∧ ρ 0 1 ≤ 200 ∧ ρ 0 2 ≤ 6 ∧ ρ 0 3 ≤ 1300 ∧ ρ 0 4 ≤ 20 := h.2.1
theorem rWF.lin {ρ : QSt} (h : rWF ρ) {j : Nat} (hj : j < ρ 0 0) : ρ 67 j ≤ ρ 1 0 ∧ ρ 66 j ≤ 99 := h.2.2.1 j hj
theorem rWF.al {ρ : QSt} (h : rWF ρ) {a : Nat} (ha : a < ρ 0 2) : ρ 146 a ≤ 3 ∧ (ρ 131 a ≠ 113 → ρ 135 a < ρ 0 3) ∧ (ρ 131 a = 104 → 1 ≤ ρ 133 a) := h.2.2.2.1 a ha
theorem rWF.fir {ρ : QSt} (h : rWF ρ) {f : Nat} (hf : f < ρ 0 3) : ρ 160 f < ρ 0 2 := h.2.2.2.2 f hf


/-! pure parts of 49.ref2 -/
theorem r_sub {a b : Nat} (h : b ≤ a) : nI a - nI b = nI (a - b) := by
  obtain ⟨d, rfl⟩ : ∃ d, a = d + b := ⟨a - b, by omega⟩
  rw [← nI_add, Int32.add_sub_cancel, Nat.add_sub_cancel]
theorem r_0m {b : Nat} (hb : b < 1073741824) : -1 = nI b - 1 ↔ b = 0 := ⟨fun h => (q_m0 hb).mp h.symm, fun h => ((q_m0 hb).mpr h).symm⟩
theorem r_m1e {a b : Nat} (ha : a < 1073741824) (hb : b < 1073741824) : nI a = nI b - 1 ↔ b = a + 1 := ⟨fun h => (q_m1 hb ha).mp h.symm, fun h => ((q_m1 hb ha).mpr h).symm⟩
theorem r_nm1 {a : Nat} (ha : a < 1073741824) : nI a = -1 ↔ a + 1 = 0 := ⟨fun h => absurd (((r_m1e (b := 0) ha (by decide)).mp (h.trans r_m1))) (by omega), fun h => absurd h (by omega)⟩
theorem r_lt0 {a : Nat} (ha : a < 1073741824) : nI a - 1 < 0 ↔ a = 0 := by
  constructor
  · intro h
    rcases Nat.eq_zero_or_pos a with z | z
    · exact z
    · rw [q_pred (by omega)] at h
      exact absurd h (fun q => nI_pos (by omega) q)
  · intro h
    rw [h]
    decide
section RR
variable {p : Program} {l : Launch} {e : Env} {R : Room} {s : State} {m : MethodId} {args : Array Value} {below : List Frame} {meth : Method} {c : Code} {H : Heap} {locs : List Loc} {cells slots : Nat} {Q : State → Prop}
variable {cc : ByteArray} {pc : Nat} {ls : Array Slot} {rest : List Value}
end RR
/-- a number that is in range -/
abbrev rIn (x : Int32) (n : Nat) : Prop := ∃ i, i < n ∧ x = nI i
theorem r_in1 {i n : Nat} (hi : i < n) (hn : n < 1073741824) : qB (nI 0 ≤ nI i ∧ nI i ≤ nI n - 1) = 1 := by
  rw [q_pred (by omega)]
  exact qB_t ⟨nI_le (by omega) (by omega), nI_le (by omega) (by omega)⟩
theorem r_in0 {x : Int32} {n : Nat} (hn : n < 1073741824) (h : ¬ rIn x n) : qB (nI 0 ≤ x ∧ x ≤ nI n - 1) = 0 := by
  refine qB_f (fun z => h ?_)
  rcases Nat.eq_zero_or_pos n with c | c
  · subst c
    exact absurd (Int32.le_trans z.1 z.2) (by decide)
  · rw [q_pred (by omega)] at z
    have h1 : (0 : Int32) ≤ x := z.1
    have h0 : 0 ≤ x.toInt := by have := Int32.le_iff_toInt_le.mp h1; simpa using this
    have h2 : x.toInt ≤ ((n - 1 : Nat) : Int) := by have := Int32.le_iff_toInt_le.mp z.2; rwa [nI_toInt (by omega)] at this
    refine ⟨x.toInt.toNat, by omega, ?_⟩
    apply Int32.toInt_inj.mp
    rw [nI_toInt (by omega)]
    omega

/-! pure parts of 50.ref3 -/
theorem r_qB {v : Nat} {P : Prop} [Decidable P] (h1 : v ≤ 1) (h : v = 1 ↔ P) : v = qB P := by
  by_cases c : P
  · rw [qB_t c]; exact h.mpr c
  · rw [qB_f c]
    rcases Nat.eq_zero_or_pos v with z | z
    · exact z
    · exact absurd (h.mp (by omega)) c
abbrev rfp (ρ : QSt) (l0 p0 k : Nat) : Prop := ρ (112 + k) p0 = 0 ∨ ρ (112 + k) p0 = ρ (80 + k) l0 + 1
abbrev rfit (ρ : QSt) (l0 p0 i : Nat) : Prop := ρ 96 p0 = ρ 64 l0 ∧ ∀ k, k < i → rfp ρ l0 p0 k
/-- the place at which two patterns differ, and one; 0 if it isn't one alone -/
def rDi (ρ : QSt) (p0 q0 d : Nat) : Prop := (d = 0 ∧ qdf (fun k => ρ (112 + k) p0) (fun k => ρ (112 + k) q0) 3 ≠ 1) ∨ (qdf (fun k => ρ (112 + k) p0) (fun k => ρ (112 + k) q0) 3 = 1 ∧ ∃ k, k < 3 ∧ d = k + 1 ∧ ρ (112 + k) p0 ≠ ρ (112 + k) q0)
theorem r_df3 (P Q : Nat → Nat) : qdf P Q 3 = qB (P 0 ≠ Q 0) + qB (P 1 ≠ Q 1) + qB (P 2 ≠ Q 2) := by
  show 0 + _ + _ + _ = _
  rw [Nat.zero_add]
theorem r_df1 {P Q : Nat → Nat} (h : qdf P Q 3 = 1) {j k : Nat} (hj : j < 3) (hk : k < 3) (h1 : P j ≠ Q j) (h2 : P k ≠ Q k) : j = k := by
  rw [r_df3] at h
  rcases (show j = 0 ∨ j = 1 ∨ j = 2 by omega) with rfl | rfl | rfl <;> rcases (show k = 0 ∨ k = 1 ∨ k = 2 by omega) with rfl | rfl | rfl <;> first
    | rfl
    | (rw [qB_t h1, qB_t h2] at h; omega)
theorem r_dfk {P Q : Nat → Nat} (h : qdf P Q 3 = 1) : ∃ k, k < 3 ∧ P k ≠ Q k := by
  rw [r_df3] at h
  by_cases c0 : P 0 ≠ Q 0
  · exact ⟨0, by decide, c0⟩
  by_cases c1 : P 1 ≠ Q 1
  · exact ⟨1, by decide, c1⟩
  by_cases c2 : P 2 ≠ Q 2
  · exact ⟨2, by decide, c2⟩
  rw [qB_f c0, qB_f c1, qB_f c2] at h
  omega
theorem rDi_ex (ρ : QSt) (p0 q0 : Nat) : ∃ d, rDi ρ p0 q0 d := by
  by_cases c : qdf (fun k => ρ (112 + k) p0) (fun k => ρ (112 + k) q0) 3 = 1
  · obtain ⟨k, h1, h2⟩ := r_dfk c
    exact ⟨k + 1, Or.inr ⟨c, k, h1, rfl, h2⟩⟩
  · exact ⟨0, Or.inl ⟨rfl, c⟩⟩
/-- a firing that was not released stands on a line -/
abbrev ron (ρ : QSt) (f l : Nat) : Prop := ρ 162 f = 0 ∧ ρ (1000 + f) l = 1
def rgd (ρ : QSt) (l : Nat) : Prop := ((∃ a, a < ρ 0 2 ∧ qcn ρ a l) ∨ (∃ f, f < ρ 0 3 ∧ ron ρ f l)) ∧ ρ 69 l ≠ 100
noncomputable def rgdN (ρ : QSt) (l : Nat) : Nat := @qB (rgd ρ l) (Classical.propDecidable _)
theorem rgdN_le (ρ : QSt) (l : Nat) : rgdN ρ l ≤ 1 := @qB_le _ (Classical.propDecidable _)
theorem rgdN_t {ρ : QSt} {l : Nat} (h : rgd ρ l) : rgdN ρ l = 1 := @qB_t _ (Classical.propDecidable _) h
theorem rgdN_f {ρ : QSt} {l : Nat} (h : ¬ rgd ρ l) : rgdN ρ l = 0 := @qB_f _ (Classical.propDecidable _) h

/-! pure parts of 51.ref4 -/
theorem qup_id (σ : QSt) (r j : Nat) : qup σ r j (σ r j) = σ := by
  funext a b
  unfold qup
  split
  · rename_i c; rw [c.1, c.2]
  · rfl
theorem rWF.up {ρ : QSt} (h : rWF ρ) (r i v : Nat) (hv : v < 1073741824) (hr : r ≠ 0 ∧ r ≠ 1 ∧ r ≠ 66 ∧ r ≠ 67 ∧ r ≠ 131 ∧ r ≠ 133 ∧ r ≠ 135 ∧ r ≠ 146 ∧ r ≠ 160) : rWF (qup ρ r i v) := by
  obtain ⟨h1, h2, h3, h4, h5⟩ := h
  have e : ∀ q j, q ≠ r → qup ρ r i v q j = ρ q j := fun q j hq => qup_k hq
  refine ⟨fun q j => ?_, by rw [e 0 _ (by omega), e 0 _ (by omega), e 0 _ (by omega), e 0 _ (by omega), e 0 _ (by omega)]; exact h2, fun j hj => ?_, fun a ha => ?_, fun f hf => ?_⟩
  · unfold qup; split
    · exact hv
    · exact h1 q j
  · rw [e 0 _ (by omega)] at hj
    rw [e 67 _ (by omega), e 1 _ (by omega), e 66 _ (by omega)]
    exact h3 j hj
  · rw [e 0 _ (by omega)] at ha
    rw [e 146 _ (by omega), e 131 _ (by omega), e 135 _ (by omega), e 133 _ (by omega), e 0 _ (by omega)]
    exact h4 a ha
  · rw [e 0 _ (by omega)] at hf
    rw [e 160 _ (by omega), e 0 _ (by omega)]
    exact h5 f hf
/-- two states that differ in rows without bounds of their own -/
theorem rWF.sub {ρ ρ2 : QSt} (h : rWF ρ) (hb : ∀ r i, ρ2 r i < 1073741824) (hk : ∀ r i, (r = 0 ∨ r = 1 ∨ r = 66 ∨ r = 67 ∨ r = 131 ∨ r = 133 ∨ r = 135 ∨ r = 146 ∨ r = 160) → ρ2 r i = ρ r i) : rWF ρ2 := by
  obtain ⟨h1, h2, h3, h4, h5⟩ := h
  refine ⟨hb, by rw [hk 0 _ (by omega), hk 0 _ (by omega), hk 0 _ (by omega), hk 0 _ (by omega), hk 0 _ (by omega)]; exact h2, fun j hj => ?_, fun a ha => ?_, fun f hf => ?_⟩
  · rw [hk 0 _ (by omega)] at hj
    rw [hk 67 _ (by omega), hk 1 _ (by omega), hk 66 _ (by omega)]
    exact h3 j hj
  · rw [hk 0 _ (by omega)] at ha
    rw [hk 146 _ (by omega), hk 131 _ (by omega), hk 135 _ (by omega), hk 133 _ (by omega), hk 0 _ (by omega)]
    exact h4 a ha
  · rw [hk 0 _ (by omega)] at hf
    rw [hk 160 _ (by omega), hk 0 _ (by omega)]
    exact h5 f hf
theorem qfMw_b {ρ : QSt} (h : ∀ r i, ρ r i < 1073741824) (a b k : Nat) (r i : Nat) : qfMw ρ a b k r i < 1073741824 := by
  unfold qfMw; split
  · decide
  · exact h r i
theorem qfMl_b {ρ : QSt} (h : ∀ r i, ρ r i < 1073741824) {a : Nat} (ha : a < 1073741824) (b k : Nat) (r i : Nat) : qfMl ρ a b k r i < 1073741824 := by
  unfold qfMl; split
  · exact ha
  · exact h r i
theorem qup_b {ρ : QSt} (h : ∀ r i, ρ r i < 1073741824) {v : Nat} (hv : v < 1073741824) (r0 i0 : Nat) (r i : Nat) : qup ρ r0 i0 v r i < 1073741824 := by
  unfold qup; split
  · exact hv
  · exact h r i
theorem qfM_rwf {ρ : QSt} (h : rWF ρ) {a b : Nat} (ha : a < 1073741824) : rWF (qfM ρ a b) := by
  refine h.sub (qfMl_b (qup_b (qfMw_b h.1 a b 3) (by decide) _ _) ha _ _) (fun r i hr => qfM_r (by omega) (by omega) (by omega))
theorem qfMw_1 {ρ : QSt} {p0 q0 k : Nat} (hk : k < 3) (h1 : qdf (fun k => ρ (112 + k) p0) (fun k => ρ (112 + k) q0) 3 = 1) (h2 : ρ (112 + k) p0 ≠ ρ (112 + k) q0) : qfMw ρ p0 q0 3 = qup ρ (112 + k) p0 0 := by
  funext r j
  unfold qfMw qup
  by_cases c : r = 112 + k ∧ j = p0
  · rw [if_pos c, if_pos ⟨by omega, by omega, c.2, by rw [c.1]; exact h2⟩]
  · rw [if_neg c, if_neg (fun z => c ⟨?_, z.2.2.1⟩)]
    obtain ⟨z1, z2, z3, z4⟩ := z
    have e : r = 112 + (r - 112) := by omega
    have := r_df1 (j := r - 112) (k := k) h1 (by omega) hk (by rw [← e]; exact z4) h2
    omega
/-- two patterns of a source that may be merged -/
abbrev rMy (ρ : QSt) (s0 p0 q0 : Nat) : Prop := ρ 96 p0 = s0 ∧ ρ 96 q0 = s0 ∧ ρ 97 p0 = 0 ∧ ρ 97 q0 = 0 ∧ qdf (fun k => ρ (112 + k) p0) (fun k => ρ (112 + k) q0) 3 = 1
/-- the first two of them -/
def rM1 (ρ : QSt) (s0 p0 q0 : Nat) : Prop := p0 < q0 ∧ q0 < ρ 0 1 ∧ rMy ρ s0 p0 q0 ∧ ∀ p q, p < q → q < ρ 0 1 → (p < p0 ∨ p = p0 ∧ q < q0) → ¬ rMy ρ s0 p q
def rM0 (ρ : QSt) (s0 : Nat) : Prop := ∀ p q, p < q → q < ρ 0 1 → ¬ rMy ρ s0 p q

/-! pure parts of 52.ref5 -/
theorem rWF.n1 {ρ : QSt} (h : rWF ρ) {v : Nat} (hv : v ≤ 200) : rWF (qup ρ 0 1 v) := by
  obtain ⟨h1, h2, h3, h4, h5⟩ := h
  refine ⟨qup_b h1 (by omega) _ _, ?_, h3, h4, h5⟩
  exact ⟨h2.1, hv, h2.2.2⟩
abbrev rP (ρ : QSt) (l0 p0 : Nat) : Prop := ρ 97 p0 = 0 ∧ rfit ρ l0 p0 3
def rLo (ρ : QSt) (l0 i u : Nat) : Prop := (u = 0 ∧ ∀ p, i ≤ p → p < ρ 0 1 → ¬ rP ρ l0 p) ∨ (∃ q, u = q + 1 ∧ i ≤ q ∧ q < ρ 0 1 ∧ rP ρ l0 q ∧ ∀ p, i ≤ p → p < q → ¬ rP ρ l0 p)
theorem rLo_top (ρ : QSt) (l0 : Nat) : rLo ρ l0 (ρ 0 1) 0 := Or.inl ⟨rfl, fun p h1 h2 => absurd h1 (by omega)⟩
theorem rLo_no {ρ : QSt} {l0 i u : Nat} (h : rLo ρ l0 (i + 1) u) (hp : ¬ rP ρ l0 i) : rLo ρ l0 i u := by
  rcases h with ⟨h1, h2⟩ | ⟨q, h1, h2, h3, h4, h5⟩
  · exact Or.inl ⟨h1, fun p p1 p2 => (Nat.eq_or_lt_of_le p1).elim (fun z => by rw [← z]; exact hp) (fun z => h2 p z p2)⟩
  · exact Or.inr ⟨q, h1, by omega, h3, h4, fun p p1 p2 => (Nat.eq_or_lt_of_le p1).elim (fun z => by rw [← z]; exact hp) (fun z => h5 p z p2)⟩
theorem rLo_yes {ρ : QSt} {l0 i : Nat} (hi : i < ρ 0 1) (hp : rP ρ l0 i) : rLo ρ l0 i (i + 1) := Or.inr ⟨i, rfl, Nat.le_refl _, hi, hp, fun p p1 p2 => absurd p1 (by omega)⟩
/-- the words of a line put into a new pattern, so far -/
def rLp (ρ : QSt) (l0 i : Nat) : QSt := fun r j => if 112 ≤ r ∧ r < 112 + i ∧ j = ρ 0 1 then ρ (80 + (r - 112)) l0 + 1 else ρ r j
theorem rLp_0 (ρ : QSt) (l0 : Nat) : rLp ρ l0 0 = ρ := by
  funext r j; exact if_neg (fun z => by omega)
theorem rLp_r {ρ : QSt} {l0 i r j : Nat} (h : r < 112 ∨ 115 ≤ r) (hi : i ≤ 3) : rLp ρ l0 i r j = ρ r j := if_neg (fun z => by omega)
theorem rLp_s {ρ : QSt} {l0 i : Nat} (hi : i < 3) : rLp ρ l0 (i + 1) = qup (rLp ρ l0 i) (112 + i) (ρ 0 1) (rLp ρ l0 i (80 + i) l0 + 1) := by
  funext r j
  rw [rLp_r (r := 80 + i) (by omega) (by omega)]
  unfold rLp qup
  by_cases c : r = 112 + i ∧ j = ρ 0 1
  · rw [if_pos c, if_pos ⟨by omega, by omega, c.2⟩, show r - 112 = i by omega]
  · rw [if_neg c]
    show _ = (if 112 ≤ r ∧ r < 112 + i ∧ j = ρ 0 1 then ρ (80 + (r - 112)) l0 + 1 else ρ r j)
    by_cases d : 112 ≤ r ∧ r < 112 + i ∧ j = ρ 0 1
    · rw [if_pos d, if_pos ⟨d.1, by omega, d.2.2⟩]
    · rw [if_neg d, if_neg (fun z => by omega)]
theorem rLp_b {ρ : QSt} (h : ∀ r i, ρ r i < 1073741823) (l0 k : Nat) (r i : Nat) : rLp ρ l0 k r i < 1073741824 := by
  unfold rLp; split
  · have := h (80 + (r - 112)) l0; omega
  · have := h r i; omega
/-- a pattern learned of a line -/
def rLr (ρ : QSt) (l0 : Nat) : QSt := qup (rLp (qup ρ 96 (ρ 0 1) (ρ 64 l0)) l0 3) 0 1 (ρ 0 1 + 1)
theorem rLr_rwf {ρ : QSt} (h : rWF ρ) {l0 : Nat} (hw : ∀ k, k < 3 → ρ (80 + k) l0 < 100) (hn : ρ 0 1 < 200) : rWF (rLr ρ l0) := by
  unfold rLr
  refine rWF.n1 ?_ (by omega)
  have hX := h.up 96 (ρ 0 1) (ρ 64 l0) (h.1 _ _) (by decide)
  refine hX.sub (fun r i => ?_) (fun r i hr => rLp_r (by omega) (by omega))
  unfold rLp; split
  · rename_i z
    have := hw (r - 112) (by omega)
    rw [qup_k (by omega)]
    omega
  · exact hX.1 r i
theorem rLr_r {ρ : QSt} {l0 r j : Nat} (h : r < 96 ∨ 97 ≤ r) (h2 : r < 112 ∨ 115 ≤ r) (h3 : r ≠ 0) : rLr ρ l0 r j = ρ r j := by
  unfold rLr
  rw [qup_k h3, rLp_r h2 (by omega), qup_k (by omega)]
/-- the turns of merging -/
def rTurns (f : Nat → QSt) (P O : Nat → Nat) (N s0 : Nat) : Prop := (∀ i, i < N → rM1 (f i) s0 (P i) (O i) ∧ f (i + 1) = qfM (f i) (P i) (O i)) ∧ rM0 (f N) s0
theorem rTurns_ok {f : Nat → QSt} {P O : Nat → Nat} {N s0 : Nat} (h : rTurns f P O N s0) (h0 : rWF (f 0)) : ∀ i, i ≤ N → rWF (f i) ∧ ∀ r j, r < 112 ∨ 115 ≤ r → r ≠ 68 → r ≠ 97 → f i r j = f 0 r j
  | 0, _ => ⟨h0, fun _ _ _ _ _ => rfl⟩
  | i + 1, hi => by
    obtain ⟨g1, g2⟩ := rTurns_ok h h0 i (by omega)
    obtain ⟨k1, k2⟩ := h.1 i (by omega)
    have hn := g1.n
    have h5 := k1.1
    have h6 := k1.2.1
    refine ⟨by rw [k2]; exact qfM_rwf g1 (by omega), fun r j a b c => by rw [k2, qfM_r a b c]; exact g2 r j a b c⟩

/-! pure parts of 53.ref6 -/
theorem rkept_le {ρ : QSt} (h : rWF ρ) (s0 : Nat) : qkept ρ s0 ≤ 19800 := by
  have h1 : qkept ρ s0 ≤ ρ 0 0 * 99 := qsum_bound _ (fun l hl => by
    unfold qkp
    split
    · exact (h.lin hl).2
    · omega)
  have h2 := h.n.1
  omega
abbrev rmay (ρ : QSt) (s0 n u : Nat) : Prop := ρ 64 n = s0 ∧ ρ 69 n = 107 ∧ (u = 0 ∨ ρ 65 n < ρ 65 (u - 1)) ∧ ¬ rgd ρ n
/-- the line that is next to be dropped, and one; 0: none -/
noncomputable def rnd (ρ : QSt) (s0 : Nat) : Nat → Nat
  | 0 => 0
  | n + 1 => @ite _ (rmay ρ s0 n (rnd ρ s0 n)) (Classical.propDecidable _) (n + 1) (rnd ρ s0 n)
theorem rnd_t {ρ : QSt} {s0 n : Nat} (h : rmay ρ s0 n (rnd ρ s0 n)) : rnd ρ s0 (n + 1) = n + 1 := @if_pos _ (Classical.propDecidable _) h _ _ _
theorem rnd_f {ρ : QSt} {s0 n : Nat} (h : ¬ rmay ρ s0 n (rnd ρ s0 n)) : rnd ρ s0 (n + 1) = rnd ρ s0 n := @if_neg _ (Classical.propDecidable _) h _ _ _
theorem rnd_le (ρ : QSt) (s0 : Nat) : ∀ n, rnd ρ s0 n ≤ n
  | 0 => Nat.le_refl 0
  | n + 1 => by
    have := rnd_le ρ s0 n
    by_cases h : rmay ρ s0 n (rnd ρ s0 n)
    · rw [rnd_t h]; exact Nat.le_refl _
    · rw [rnd_f h]; omega
/-- the state behind so many drops -/
noncomputable def rDs (ρ : QSt) (s0 : Nat) : Nat → QSt
  | 0 => ρ
  | i + 1 => qup (rDs ρ s0 i) 69 (rnd (rDs ρ s0 i) s0 (rDs ρ s0 i 0 0) - 1) 100
def rDrp (ρ : QSt) (s0 N : Nat) : Prop := (∀ i, i < N → rDs ρ s0 i 48 s0 < qkept (rDs ρ s0 i) s0 ∧ rnd (rDs ρ s0 i) s0 (rDs ρ s0 i 0 0) ≠ 0) ∧ (qkept (rDs ρ s0 N) s0 ≤ rDs ρ s0 N 48 s0 ∨ rnd (rDs ρ s0 N) s0 (rDs ρ s0 N 0 0) = 0)
theorem rDs_ok {ρ : QSt} (h : rWF ρ) (s0 : Nat) : ∀ i, rWF (rDs ρ s0 i) ∧ ∀ r j, r ≠ 69 → rDs ρ s0 i r j = ρ r j
  | 0 => ⟨h, fun _ _ _ => rfl⟩
  | i + 1 => by
    obtain ⟨g1, g2⟩ := rDs_ok h s0 i
    exact ⟨g1.up 69 _ 100 (by decide) (by decide), fun r j hr => (qup_k hr).trans (g2 r j hr)⟩

/-- the turns of looking at all sources -/
noncomputable def rDa (ρ : QSt) (N : Nat → Nat) : Nat → QSt
  | 0 => ρ
  | s0 + 1 => rDs (rDa ρ N s0) s0 (N s0)
theorem rDa_ok {ρ : QSt} (h : rWF ρ) (N : Nat → Nat) : ∀ i, rWF (rDa ρ N i) ∧ ∀ r j, r ≠ 69 → rDa ρ N i r j = ρ r j
  | 0 => ⟨h, fun _ _ _ => rfl⟩
  | i + 1 => by
    obtain ⟨g1, g2⟩ := rDa_ok h N i
    obtain ⟨k1, k2⟩ := rDs_ok g1 i (N i)
    exact ⟨k1, fun r j hr => (k2 r j hr).trans (g2 r j hr)⟩
/-! pure parts of 54.ref7 -/
theorem q_setbitR (ρ : QSt) (f l : Nat) (hl : l < 200) : vp_updL (fun i => qbits (ρ (1000 + i / 4)) 50 (i % 4)) (4 * f + l / 50) (qbits (ρ (1000 + f)) 50 (l / 50) ||| ((1 : Int64) <<< ((nI (l % 50)).toInt64 &&& 63))) = fun i => qbits (qup ρ (1000 + f) l 1 (1000 + i / 4)) 50 (i % 4) := by
  have h1 := q_setbits (F := ρ (1000 + f)) (k := 50) (l := l) (by decide) (by decide)
  funext i
  by_cases c : i = 4 * f + l / 50
  · have e1 : i / 4 = f := by omega
    have e2 : i % 4 = l / 50 := by omega
    have h2 := congrFun h1 (l / 50)
    have h3 : vp_updL (qbits (ρ (1000 + f)) 50) (l / 50) (qbits (ρ (1000 + f)) 50 (l / 50) ||| ((1 : Int64) <<< ((nI (l % 50)).toInt64 &&& 63))) (l / 50) = (qbits (ρ (1000 + f)) 50 (l / 50) ||| ((1 : Int64) <<< ((nI (l % 50)).toInt64 &&& 63))) := if_pos rfl
    rw [h3] at h2
    unfold vp_updL
    rw [if_pos c, e1, e2, h2]
    congr 1
    funext j
    unfold qup
    by_cases d : j = l
    · rw [if_pos d, if_pos ⟨rfl, d⟩]
    · rw [if_neg d, if_neg (fun z => d z.2)]
  · unfold vp_updL
    rw [if_neg c]
    by_cases e1 : i / 4 = f
    · rw [e1]
      refine qbits_congr (fun b hb => ?_)
      have e : 50 * (i % 4) + b ≠ l := by omega
      rw [qup_j e, e1]
    · have e : qup ρ (1000 + f) l 1 (1000 + i / 4) = ρ (1000 + i / 4) := by
        funext j
        exact qup_k (by omega)
      rw [e]
/-- one that has too few -/
def rLkA (ρ : QSt) (a : Nat) : QSt := if ρ 131 a = 102 then qup (qup ρ 131 a (if ρ 130 a = 0 then 113 else 104)) 133 a (ρ 130 a) else ρ
/-- one that has enough: its firing -/
def rLkN (ρ : QSt) (a : Nat) : QSt := if ρ 131 a = 113 then qup (qup (qup (qup ρ 135 a (ρ 0 3)) 160 (ρ 0 3) a) 161 (ρ 0 3) (ρ 1 0)) 0 3 (ρ 0 3 + 1) else ρ
def rLkB (ρ : QSt) (a : Nat) : QSt := qup (qup (rLkN ρ a) 131 a 102) 133 a 0
def rLkS (ρ : QSt) (a i : Nat) : QSt := qset ρ (1000 + ρ 135 a) (fun l => l < i ∧ qcn ρ a l) (fun _ => 1)
def rLk (ρ : QSt) (a : Nat) : QSt := if qcnt ρ a < ρ 128 a then rLkA ρ a else rLkS (rLkB ρ a) a (ρ 0 0)
theorem rLkN_r {ρ : QSt} {a r j : Nat} (h0 : r ≠ 0) (h1 : r ≠ 135) (h2 : r ≠ 160) (h3 : r ≠ 161) : rLkN ρ a r j = ρ r j := by
  unfold rLkN
  split
  · rw [qup_k h0, qup_k h3, qup_k h2, qup_k h1]
  · rfl
theorem rLkN_0 {ρ : QSt} {a j : Nat} (h : j ≠ 3) : rLkN ρ a 0 j = ρ 0 j := by
  unfold rLkN
  split
  · rw [qup_j h]; rfl
  · rfl
theorem rLkB_r {ρ : QSt} {a r j : Nat} (h0 : r ≠ 0) (h1 : r ≠ 135) (h2 : r ≠ 160) (h3 : r ≠ 161) (h4 : r ≠ 131) (h5 : r ≠ 133) : rLkB ρ a r j = ρ r j := by
  unfold rLkB
  rw [qup_k h5, qup_k h4, rLkN_r h0 h1 h2 h3]
theorem rLkB_0 {ρ : QSt} {a j : Nat} (h : j ≠ 3) : rLkB ρ a 0 j = ρ 0 j := by
  show rLkN ρ a 0 j = _
  exact rLkN_0 h
theorem rLkB_03 {ρ : QSt} {a : Nat} : ρ 0 3 ≤ rLkB ρ a 0 3 ∧ rLkB ρ a 0 3 ≤ ρ 0 3 + 1 := by
  show ρ 0 3 ≤ rLkN ρ a 0 3 ∧ rLkN ρ a 0 3 ≤ ρ 0 3 + 1
  unfold rLkN
  split
  · rw [qup_s]; omega
  · omega
theorem rLkB_rwf {ρ : QSt} (h : rWF ρ) {a : Nat} (ha : a < ρ 0 2) (hn : ρ 131 a = 113 → ρ 0 3 < 1300) : rWF (rLkB ρ a) ∧ rLkB ρ a 135 a < rLkB ρ a 0 3 := by
  have hb := h.n
  have h02 : rLkB ρ a 0 2 = ρ 0 2 := rLkB_0 (by decide)
  have h00 : rLkB ρ a 0 0 = ρ 0 0 := rLkB_0 (by decide)
  have h01 : rLkB ρ a 0 1 = ρ 0 1 := rLkB_0 (by decide)
  have h04 : rLkB ρ a 0 4 = ρ 0 4 := rLkB_0 (by decide)
  have h03 := rLkB_03 (ρ := ρ) (a := a)
  have hB := h.1
  have hf : rLkB ρ a 135 a < rLkB ρ a 0 3 := by
    show rLkN ρ a 135 a < rLkN ρ a 0 3
    unfold rLkN
    split
    · rw [qup_s, qup_k (by decide), qup_k (by decide), qup_k (by decide), qup_s]; omega
    · rename_i c; exact (h.al ha).2.1 c
  refine ⟨⟨?_, ?_, ?_, ?_, ?_⟩, hf⟩
  · unfold rLkB
    refine qup_b (qup_b ?_ (by decide) _ _) (by decide) _ _
    unfold rLkN
    split
    · rename_i c
      have := hn c
      exact qup_b (qup_b (qup_b (qup_b hB (by omega) _ _) (by omega) _ _) (hB _ _) _ _) (by omega) _ _
    · exact hB
  · rw [h00, h01, h02, h04]
    have : rLkB ρ a 0 3 ≤ 1300 := by
      show rLkN ρ a 0 3 ≤ 1300
      unfold rLkN
      split
      · rename_i c; have := hn c; rw [qup_s]; omega
      · omega
    omega
  · intro j hj
    rw [h00] at hj
    rw [rLkB_r (by decide) (by decide) (by decide) (by decide) (by decide) (by decide), rLkB_r (by decide) (by decide) (by decide) (by decide) (by decide) (by decide), rLkB_r (by decide) (by decide) (by decide) (by decide) (by decide) (by decide)]
    exact h.lin hj
  · intro x hx
    rw [h02] at hx
    have g := h.al hx
    rw [rLkB_r (by decide) (by decide) (by decide) (by decide) (by decide) (by decide)]
    refine ⟨g.1, fun c => ?_, fun c => ?_⟩
    · by_cases d : x = a
      · subst d; exact hf
      · have e : rLkB ρ a 131 x = ρ 131 x := by
          show qup (qup (rLkN ρ a) 131 a 102) 133 a 0 131 x = _
          rw [qup_k (by decide), qup_j d, rLkN_r (by decide) (by decide) (by decide) (by decide)]
        have e2 : rLkB ρ a 135 x = ρ 135 x := by
          show rLkN ρ a 135 x = _
          unfold rLkN
          split
          · rw [qup_k (by decide), qup_k (by decide), qup_k (by decide), qup_j d]
          · rfl
        rw [e] at c
        rw [e2]
        have := g.2.1 c
        omega
    · by_cases d : x = a
      · subst d
        have e : rLkB ρ x 131 x = 102 := by
          show qup (qup (rLkN ρ x) 131 x 102) 133 x 0 131 x = _
          rw [qup_k (by decide), qup_s]
        rw [e] at c
        exact absurd c (by decide)
      · have e : rLkB ρ a 131 x = ρ 131 x := by
          show qup (qup (rLkN ρ a) 131 a 102) 133 a 0 131 x = _
          rw [qup_k (by decide), qup_j d, rLkN_r (by decide) (by decide) (by decide) (by decide)]
        have e2 : rLkB ρ a 133 x = ρ 133 x := by
          show qup (qup (rLkN ρ a) 131 a 102) 133 a 0 133 x = _
          rw [qup_j d, qup_k (by decide), rLkN_r (by decide) (by decide) (by decide) (by decide)]
        rw [e] at c
        rw [e2]
        exact g.2.2 c
  · intro f hf2
    rw [h02]
    show rLkN ρ a 160 f < _
    have hf3 : f < rLkN ρ a 0 3 := hf2
    unfold rLkN at hf3 ⊢
    split
    · rename_i c
      rw [if_pos c, qup_s] at hf3
      rw [qup_k (by decide), qup_k (by decide)]
      by_cases d : f = ρ 0 3
      · rw [d, qup_s]; exact ha
      · rw [qup_j d, qup_k (by decide)]; exact h.fir (by omega)
    · rename_i c
      rw [if_neg c] at hf3
      exact h.fir hf3
theorem rLkS_rwf {ρ : QSt} (h : rWF ρ) (a i : Nat) : rWF (rLkS ρ a i) := by
  refine h.sub (fun r j => ?_) (fun r j hr => qset_k (by omega))
  unfold rLkS qset; split
  · show (1 : Nat) < 1073741824; decide
  · exact h.1 r j
theorem rLkS_r {ρ : QSt} {a i r j : Nat} (h : r < 1000) : rLkS ρ a i r j = ρ r j := qset_k (by omega)
theorem rLkS_0 (ρ : QSt) (a : Nat) : rLkS ρ a 0 = ρ := qset_none (fun j z => absurd z.1 (by omega))
theorem qcn_congr {ρ ρ2 : QSt} {a l : Nat} (hP : ρ 146 a ≤ 3) (h : ∀ r j, r < 1000 → ρ2 r j = ρ r j) : qcn ρ2 a l ↔ qcn ρ a l := by
  unfold qcn qcw qtk
  rw [h 69 l (by decide), h 1 0 (by decide), h 67 l (by decide), h 129 a (by decide), h 64 l (by decide), h 144 a (by decide), h 145 a (by decide), h 65 l (by decide), h 146 a (by decide), h 147 a (by decide), h (80 + (ρ 146 a - 1)) l (by omega)]
theorem rLkS_yes {ρ : QSt} {a i : Nat} (h : qcn ρ a i) : rLkS ρ a (i + 1) = qup (rLkS ρ a i) (1000 + ρ 135 a) i 1 := by
  unfold rLkS
  rw [qset_ins (P := fun l => l < i ∧ qcn ρ a l) (i := i) (fun j => ⟨fun z => (Nat.lt_succ_iff_lt_or_eq.mp z.1).elim (fun q => Or.inl ⟨q, z.2⟩) Or.inr, fun z => z.elim (fun q => ⟨by omega, q.2⟩) (fun q => by rw [q]; exact ⟨Nat.lt_succ_self _, h⟩)⟩)]
theorem rLkS_no {ρ : QSt} {a i : Nat} (h : ¬ qcn ρ a i) : rLkS ρ a (i + 1) = rLkS ρ a i := by
  unfold rLkS
  exact qset_eq (fun j => ⟨fun z => ⟨(Nat.lt_succ_iff_lt_or_eq.mp z.1).elim id (fun q => absurd (by rw [← q]; exact z.2) h), z.2⟩, fun z => ⟨by omega, z.2⟩⟩)
theorem rLkA_rwf {ρ : QSt} (h : rWF ρ) {a : Nat} (ha : a < ρ 0 2) : rWF (rLkA ρ a) := by
  unfold rLkA
  split
  · rename_i c
    obtain ⟨h1, h2, h3, h4, h5⟩ := h
    refine ⟨qup_b (qup_b h1 (by split <;> decide) _ _) (h1 _ _) _ _, h2, h3, fun x hx => ?_, h5⟩
    have g := h4 x hx
    show ρ 146 x ≤ 3 ∧ (qup (qup ρ 131 a (if ρ 130 a = 0 then 113 else 104)) 133 a (ρ 130 a) 131 x ≠ 113 → ρ 135 x < ρ 0 3) ∧ (qup (qup ρ 131 a (if ρ 130 a = 0 then 113 else 104)) 133 a (ρ 130 a) 131 x = 104 → 1 ≤ qup (qup ρ 131 a (if ρ 130 a = 0 then 113 else 104)) 133 a (ρ 130 a) 133 x)
    have e1 : qup (qup ρ 131 a (if ρ 130 a = 0 then 113 else 104)) 133 a (ρ 130 a) 131 x = qup ρ 131 a (if ρ 130 a = 0 then 113 else 104) 131 x := qup_k (by decide)
    rw [e1]
    by_cases d : x = a
    · subst d
      refine ⟨g.1, fun _ => g.2.1 (by omega), fun z => ?_⟩
      rw [qup_s] at z
      rw [qup_s]
      by_cases q : ρ 130 x = 0
      · rw [if_pos q] at z; exact absurd z (by decide)
      · omega
    · rw [qup_j d, qup_j d, qup_k (by decide)]
      exact g
  · exact h
theorem rLk_rwf {ρ : QSt} (h : rWF ρ) {a : Nat} (ha : a < ρ 0 2) (hn : ρ 131 a = 113 → ρ 128 a ≤ qcnt ρ a → ρ 0 3 < 1300) : rWF (rLk ρ a) := by
  unfold rLk
  split
  · exact rLkA_rwf h ha
  · exact rLkS_rwf (rLkB_rwf h ha (fun z => hn z (by omega))).1 _ _

/-! pure parts of 55.ref8 -/
/-- the state behind 'thrown = 0' -/
def rT (ρ : QSt) : QSt := qup ρ 2 0 0
theorem rT_0 (ρ : QSt) : rT ρ 2 0 = 0 := qup_s _ _ _ _
theorem rT_r {ρ : QSt} {r j : Nat} (h : r ≠ 2) : rT ρ r j = ρ r j := qup_k h
theorem rT_wf {ρ : QSt} (h : rWF ρ) : rWF (rT ρ) := h.up 2 0 0 (by decide) (by decide)
theorem r_inp {P : Nat} (h : P ≤ 3) : qB (-1 ≤ nI P - 1 ∧ nI P - 1 ≤ nI 2) = 1 := by
  rcases (show P = 0 ∨ P = 1 ∨ P = 2 ∨ P = 3 by omega) with rfl | rfl | rfl | rfl <;> decide
theorem r_nchar : ∀ x, x < 128 → narrow .char (.int (nI x)) = .int (nI x) := by decide +kernel

/-! pure parts of 56.ref9 -/
theorem r_un {p : Prop} [Decidable p] (h : qB p ≠ 0) : p := Classical.byContradiction fun q => h (qB_f q)

/-! pure parts of 57.ref10 -/
theorem rWF.cnt {ρ : QSt} (h : rWF ρ) {J v : Nat} (hJ : J = 4) (hv : v ≤ 20) : rWF (qup ρ 0 J v) := by
  subst hJ
  obtain ⟨h1, h2, h3, h4, h5⟩ := h
  exact ⟨qup_b h1 (by omega) _ _, ⟨h2.1, h2.2.1, h2.2.2.1, h2.2.2.2.1, hv⟩, h3, h4, h5⟩
/-- a request made -/
def rRq (ρ : QSt) (s0 r0 : Nat) : QSt := qup (qup (qup (qup (qup ρ 208 (ρ 0 4) s0) 209 (ρ 0 4) r0) 192 (ρ 0 4) (ρ 1 0 + 2 + qsum (fun l => qB (ρ 64 l = s0 ∧ ρ 69 l = 97 ∧ 0 ≤ ρ 65 l)) (ρ 0 0) / 3)) 195 (ρ 0 4) 0) 0 4 (ρ 0 4 + 1)
/-- an alert added, not yet looked at -/
def rAl (ρ : QSt) (s0 r0 P w0 g0 n0 h0 : Nat) : QSt := qup (qup (qup (qup (qup (qup (qup (qup (qup ρ 144 (ρ 0 2) s0) 145 (ρ 0 2) r0) 146 (ρ 0 2) P) 147 (ρ 0 2) w0) 128 (ρ 0 2) g0) 129 (ρ 0 2) n0) 130 (ρ 0 2) h0) 131 (ρ 0 2) 113) 0 2 (ρ 0 2 + 1)
theorem rAl_wf {ρ : QSt} (h : rWF ρ) {s0 r0 P w0 g0 n0 h0 : Nat} (hs0 : s0 < 4) (hr0 : r0 < 5) (hP : P ≤ 3) (hw0 : w0 < 100) (hg0 : 1 ≤ g0 ∧ g0 ≤ 9) (hn0 : 1 ≤ n0 ∧ n0 ≤ 50) (hh0 : h0 ≤ 20) (hn2 : ρ 0 2 < 6) : rWF (rAl ρ s0 r0 P w0 g0 n0 h0) := by
  obtain ⟨h1, h2, h3, h4, h5⟩ := h
  refine ⟨?_, ⟨h2.1, h2.2.1, by show ρ 0 2 + 1 ≤ 6; omega, h2.2.2.2.1, h2.2.2.2.2⟩, h3, fun a ha => ?_, fun f hf => ?_⟩
  · unfold rAl
    exact qup_b (qup_b (qup_b (qup_b (qup_b (qup_b (qup_b (qup_b (qup_b h1 (by omega) _ _) (by omega) _ _) (by omega) _ _) (by omega) _ _) (by omega) _ _) (by omega) _ _) (by omega) _ _) (by decide) _ _) (by omega) _ _
  · have ha2 : a < ρ 0 2 + 1 := ha
    show (qup ρ 146 (ρ 0 2) P 146 a ≤ 3 ∧ (qup ρ 131 (ρ 0 2) 113 131 a ≠ 113 → ρ 135 a < ρ 0 3) ∧ (qup ρ 131 (ρ 0 2) 113 131 a = 104 → 1 ≤ ρ 133 a))
    by_cases c : a = ρ 0 2
    · rw [c, qup_s, qup_s]; exact ⟨hP, fun z => absurd rfl z, fun z => absurd z (by decide)⟩
    · rw [qup_j c, qup_j c]; exact h4 a (by omega)
  · have := h5 f hf
    show ρ 160 f < ρ 0 2 + 1
    omega
/-- a line put down, not yet read -/
def rLi (ρ : QSt) (s0 r0 x1 x2 x3 b0 : Nat) : QSt := qup (qup (qup (qup (qup (qup (qup (qup (qup ρ 64 (ρ 0 0) s0) 65 (ρ 0 0) r0) 80 (ρ 0 0) x1) 81 (ρ 0 0) x2) 82 (ρ 0 0) x3) 66 (ρ 0 0) b0) 67 (ρ 0 0) (ρ 1 0)) 69 (ρ 0 0) 107) 0 0 (ρ 0 0 + 1)
theorem rLi_wf {ρ : QSt} (h : rWF ρ) {s0 r0 x1 x2 x3 b0 : Nat} (hs0 : s0 < 4) (hr0 : r0 < 5) (hx1 : x1 < 100) (hx2 : x2 < 100) (hx3 : x3 < 100) (hb0 : 1 ≤ b0 ∧ b0 ≤ 99) (hn0 : ρ 0 0 < 200) : rWF (rLi ρ s0 r0 x1 x2 x3 b0) := by
  obtain ⟨h1, h2, h3, h4, h5⟩ := h
  refine ⟨?_, ⟨by show ρ 0 0 + 1 ≤ 200; omega, h2.2⟩, fun j hj => ?_, h4, h5⟩
  · unfold rLi
    exact qup_b (qup_b (qup_b (qup_b (qup_b (qup_b (qup_b (qup_b (qup_b h1 (by omega) _ _) (by omega) _ _) (by omega) _ _) (by omega) _ _) (by omega) _ _) (by omega) _ _) (h1 _ _) _ _) (by decide) _ _) (by omega) _ _
  · have hj2 : j < ρ 0 0 + 1 := hj
    show qup ρ 67 (ρ 0 0) (ρ 1 0) 67 j ≤ ρ 1 0 ∧ qup ρ 66 (ρ 0 0) b0 66 j ≤ 99
    by_cases c : j = ρ 0 0
    · rw [c, qup_s, qup_s]; exact ⟨Nat.le_refl _, hb0.2⟩
    · rw [qup_j c, qup_j c]; exact h3 j (by omega)
/-- looks at alerts, one behind the other -/
def rLs (ρ : QSt) : Nat → QSt
  | 0 => ρ
  | i + 1 => rLk (rLs ρ i) i
theorem rLk_0 {ρ : QSt} {a j : Nat} (h : j ≠ 3) : rLk ρ a 0 j = ρ 0 j := by
  unfold rLk
  split
  · unfold rLkA; split <;> rfl
  · rw [rLkS_r (by decide), rLkB_0 h]
theorem rLk_03 (ρ : QSt) (a : Nat) : ρ 0 3 ≤ rLk ρ a 0 3 ∧ rLk ρ a 0 3 ≤ ρ 0 3 + 1 := by
  unfold rLk
  split
  · unfold rLkA; split
    · exact ⟨Nat.le_refl _, Nat.le_succ _⟩
    · exact ⟨Nat.le_refl _, Nat.le_succ _⟩
  · rw [rLkS_r (by decide)]; exact rLkB_03
theorem rLs_ok {ρ : QSt} (h : rWF ρ) (hn : ρ 0 3 + ρ 0 2 ≤ 1300) : ∀ i, i ≤ ρ 0 2 → rWF (rLs ρ i) ∧ (∀ j, j ≠ 3 → rLs ρ i 0 j = ρ 0 j) ∧ rLs ρ i 0 3 ≤ ρ 0 3 + i
  | 0, _ => ⟨h, fun _ _ => rfl, Nat.le_refl _⟩
  | i + 1, hi => by
    obtain ⟨g1, g2, g3⟩ := rLs_ok h hn i (by omega)
    have h2 := g2 2 (by decide)
    refine ⟨rLk_rwf g1 (by omega) (fun _ _ => by omega), fun j hj => (rLk_0 hj).trans (g2 j hj), ?_⟩
    have := rLk_03 (rLs ρ i) i
    show rLk (rLs ρ i) i 0 3 ≤ _
    omega

/-! pure parts of 58.ref11 -/
theorem rWF.now {ρ : QSt} (h : rWF ρ) (hn : ρ 1 0 < 5000) : rWF (qfNow ρ) := by
  obtain ⟨h1, h2, h3, h4, h5⟩ := h
  refine ⟨qup_b h1 (by omega) _ _, h2, fun j hj => ?_, h4, h5⟩
  have g := h3 j hj
  exact ⟨Nat.le_succ_of_le g.1, g.2⟩
/-- a hold made shorter -/
def rSh (ρ : QSt) (a : Nat) : QSt := if ρ 131 a = 104 then qup (qup ρ 133 a (ρ 133 a - 1)) 131 a (if ρ 133 a - 1 = 0 then 113 else 104) else ρ
theorem rSh_r {ρ : QSt} {a r j : Nat} (h1 : r ≠ 131) (h2 : r ≠ 133) : rSh ρ a r j = ρ r j := by
  unfold rSh
  split
  · rw [qup_k h1, qup_k h2]
  · rfl
theorem rSh_wf {ρ : QSt} (h : rWF ρ) {a : Nat} (ha : a < ρ 0 2) : rWF (rSh ρ a) := by
  unfold rSh
  split
  · rename_i c
    obtain ⟨h1, h2, h3, h4, h5⟩ := h
    have hb := h1 133 a
    refine ⟨qup_b (qup_b h1 (by omega) _ _) (by split <;> decide) _ _, h2, h3, fun x hx => ?_, h5⟩
    have g := h4 x hx
    show ρ 146 x ≤ 3 ∧ (qup (qup ρ 133 a (ρ 133 a - 1)) 131 a (if ρ 133 a - 1 = 0 then 113 else 104) 131 x ≠ 113 → ρ 135 x < ρ 0 3) ∧ (qup (qup ρ 133 a (ρ 133 a - 1)) 131 a (if ρ 133 a - 1 = 0 then 113 else 104) 131 x = 104 → 1 ≤ qup (qup ρ 133 a (ρ 133 a - 1)) 131 a (if ρ 133 a - 1 = 0 then 113 else 104) 133 x)
    rw [qup_k (by decide : (133 : Nat) ≠ 131)]
    by_cases d : x = a
    · subst d
      rw [qup_s, qup_s]
      refine ⟨g.1, fun _ => g.2.1 (by omega), fun z => ?_⟩
      by_cases q : ρ 133 x - 1 = 0
      · rw [if_pos q] at z; exact absurd z (by decide)
      · omega
    · rw [qup_j d, qup_j d, qup_j d]
      exact g
  · exact h
def rTk (ρ : QSt) : Nat → QSt
  | 0 => qfNow ρ
  | i + 1 => rLk (rSh (rTk ρ i) i) i
theorem rTk_ok {ρ : QSt} (h : rWF ρ) (ht : ρ 1 0 < 5000) (hn : ρ 0 3 + ρ 0 2 ≤ 1300) : ∀ i, i ≤ ρ 0 2 → rWF (rTk ρ i) ∧ (∀ j, j ≠ 3 → rTk ρ i 0 j = ρ 0 j) ∧ rTk ρ i 0 3 ≤ ρ 0 3 + i
  | 0, _ => ⟨h.now ht, fun _ _ => rfl, Nat.le_refl _⟩
  | i + 1, hi => by
    obtain ⟨g1, g2, g3⟩ := rTk_ok h ht hn i (by omega)
    have h2 := g2 2 (by decide)
    have e : ∀ j, rSh (rTk ρ i) i 0 j = rTk ρ i 0 j := fun j => rSh_r (by decide) (by decide)
    refine ⟨rLk_rwf (rSh_wf g1 (by omega)) (by rw [e]; omega) (fun _ _ => by rw [e]; omega), fun j hj => (rLk_0 hj).trans ((e j).trans (g2 j hj)), ?_⟩
    have := rLk_03 (rSh (rTk ρ i) i) i
    rw [e] at this
    show rLk (rSh (rTk ρ i) i) i 0 3 ≤ _
    omega
/-- requests answered, so far -/
def rAnC (ρ : QSt) (j : Nat) : Nat := qsum (fun l => qB (ρ 64 l = ρ 208 j ∧ ρ 69 l = 97 ∧ ρ 209 j ≤ ρ 65 l)) (ρ 0 0)
def rAn (ρ : QSt) (i : Nat) : QSt := fun r j => if r = 195 ∧ j < i ∧ ρ 192 j = ρ 1 0 then rAnC ρ j + 1 else ρ r j
theorem rAnC_le {ρ : QSt} (h : rWF ρ) (j : Nat) : rAnC ρ j ≤ 200 := Nat.le_trans (qsum_bound (b := 1) _ (fun l _ => qB_le)) (by have := h.n; omega)
theorem rAn_0 (ρ : QSt) : rAn ρ 0 = ρ := by
  funext r j; exact if_neg (fun z => by omega)
theorem rAn_r {ρ : QSt} {i r j : Nat} (h : r ≠ 195) : rAn ρ i r j = ρ r j := if_neg (fun z => h z.1)
theorem rAn_yes {ρ : QSt} {i : Nat} (h : ρ 192 i = ρ 1 0) : rAn ρ (i + 1) = qup (rAn ρ i) 195 i (rAnC ρ i + 1) := by
  funext r j
  unfold rAn qup
  by_cases c : r = 195 ∧ j = i
  · rw [if_pos c, if_pos ⟨c.1, by omega, by rw [c.2]; exact h⟩, c.2]
  · rw [if_neg c]
    show _ = (if r = 195 ∧ j < i ∧ ρ 192 j = ρ 1 0 then rAnC ρ j + 1 else ρ r j)
    by_cases d : r = 195 ∧ j < i ∧ ρ 192 j = ρ 1 0
    · rw [if_pos d, if_pos ⟨d.1, by omega, d.2.2⟩]
    · rw [if_neg d, if_neg (fun z => d ⟨z.1, by omega, z.2.2⟩)]
theorem rAn_no {ρ : QSt} {i : Nat} (h : ρ 192 i ≠ ρ 1 0) : rAn ρ (i + 1) = qup (rAn ρ i) 195 i (rAn ρ i 195 i) := by
  rw [qup_id]
  funext r j
  unfold rAn
  by_cases d : r = 195 ∧ j < i ∧ ρ 192 j = ρ 1 0
  · rw [if_pos d, if_pos ⟨d.1, by omega, d.2.2⟩]
  · rw [if_neg d, if_neg (fun z => d ⟨z.1, by
      have := z.2.1
      by_cases q : j = i
      · rw [q] at z; exact absurd z.2.2 h
      · omega, z.2.2⟩)]
theorem rAn_wf {ρ : QSt} (h : rWF ρ) (i : Nat) : rWF (rAn ρ i) := by
  refine h.sub (fun r j => ?_) (fun r j hr => rAn_r (by omega))
  unfold rAn; split
  · have := rAnC_le h j; omega
  · exact h.1 r j
noncomputable def rP1 (ρ : QSt) (N : Nat → Nat) : QSt := rAn (rDa (rTk ρ (ρ 0 2)) N 4) (ρ 0 4)
noncomputable def rPs (ρ : QSt) (N : Nat → Nat → Nat) : Nat → QSt
  | 0 => ρ
  | i + 1 => rP1 (rPs ρ N i) (N i)
/-- what a tick asks -/
def rTick (ρ : QSt) (N : Nat → Nat) : Prop := ρ 0 3 + ρ 0 2 ≤ 1300 ∧ ∀ s0, s0 < 4 → rDrp (rDa (rTk ρ (ρ 0 2)) N s0) s0 (N s0)
theorem rP1_ok {ρ : QSt} (h : rWF ρ) (ht : ρ 1 0 < 5000) {N : Nat → Nat} (hN : rTick ρ N) : rWF (rP1 ρ N) ∧ rP1 ρ N 1 0 = ρ 1 0 + 1 := by
  obtain ⟨g1, g2, g3⟩ := rTk_ok h ht hN.1 (ρ 0 2) (Nat.le_refl _)
  obtain ⟨k1, k2⟩ := rDa_ok g1 N 4
  refine ⟨rAn_wf k1 _, ?_⟩
  unfold rP1
  rw [rAn_r (by decide), k2 1 0 (by decide)]
  have : ∀ i, rTk ρ i 1 0 = ρ 1 0 + 1 := by
    intro i
    induction i with
    | zero => show qup ρ 1 0 (ρ 1 0 + 1) 1 0 = _; exact qup_s _ _ _ _
    | succ i ih =>
      show rLk (rSh (rTk ρ i) i) i 1 0 = _
      unfold rLk
      split
      · unfold rLkA; split
        · rw [qup_k (by decide), qup_k (by decide), rSh_r (by decide) (by decide)]; exact ih
        · rw [rSh_r (by decide) (by decide)]; exact ih
      · rw [rLkS_r (by decide), rLkB_r (by decide) (by decide) (by decide) (by decide) (by decide) (by decide), rSh_r (by decide) (by decide)]; exact ih
  exact this _

/-! pure parts of 62.ref12 -/
