/-! the law's loop: its state -/
abbrev lF (s : State) : Nat → Prop := fun q => s.heap.size ≤ q
def lD (s : State) (A B : Nat → Prop) (o1 o2 hz : Nat) : Prop := (∀ q, A q → s.heap.size ≤ q) ∧ (∀ q, B q → s.heap.size ≤ q) ∧ s.heap.size ≤ o1 ∧ s.heap.size ≤ o2 ∧ ¬ A o1 ∧ ¬ A o2 ∧ ¬ B o1 ∧ ¬ B o2 ∧ o1 ≠ o2 ∧ (∀ q, A q → ¬ B q) ∧ ∀ q, hz ≤ q → A q
def lC (p : Program) (l : Launch) (s : State) (m : MethodId) (meth : Method) (c : Code) (b L : Nat) (xs : Nat → Int32) (G : QG) (es o1 o2 hz : Nat) (A B : Nat → Prop) : Prop :=
  p.tables.exec = Jvm.exec ∧ c.code = cL_law ∧ c.maxLocals = 9 ∧ s.vm.findClass RL = some m.cls ∧ (∀ w ∈ wsL_law, w.before #[Value.ref b] s = true) ∧ meth.locks = false ∧ l.stackTraces = false ∧ va_X b L xs s s.heap ∧ b < s.heap.size ∧ qCX G s ∧ qSZ es (lF s) s s.heap ∧ qStr s ∧ qNc s ∧ L ≤ 4096 ∧ lD s A B o1 o2 hz
abbrev lO1 (G : QG) (f : Nat → Int64) : va_E := .inl (G.2 2, 1, .inr (.inl f))
abbrev lO2 (G : QG) (f : Nat → UInt64) : va_E := .inl (G.2 5, 1, .inr (.inr (.inr (.inl f))))
def lS (G : QG) (es : Nat) (A B : Nat → Prop) (bd : QSt) (o1 o2 hz : Nat) (s : State) (σ ρ ad : QSt) (H : Heap) : Prop :=
  zIv σ ∧ zRel σ ρ ∧ rWF ρ ∧ qLW G es A σ ad H ∧ rW G B ρ bd H ∧ (∃ f, va_at G.1 vwCl (o1, lO1 G f) H) ∧ (∃ f, va_at G.1 vwCl (o2, lO2 G f) H) ∧ va_S (lF s) s.heap H [] ∧ hz ≤ H.size
section LS
variable {s : State} {A B : Nat → Prop} {o1 o2 hz es : Nat} {G : QG} {σ ρ ad bd : QSt} {H H1 : Heap}
theorem lD.a (h : lD s A B o1 o2 hz) : ∀ q, A q → lF s q := h.1
theorem lD.b (h : lD s A B o1 o2 hz) : ∀ q, B q → lF s q := h.2.1
theorem lD.a1 (h : lD s A B o1 o2 hz) : ∀ q, (A q ∨ q = o1) → lF s q := fun q z => z.elim (h.1 q) (fun e => by rw [e]; exact h.2.2.1)
theorem lD.a2 (h : lD s A B o1 o2 hz) : ∀ q, (A q ∨ q = o2) → lF s q := fun q z => z.elim (h.1 q) (fun e => by rw [e]; exact h.2.2.2.1)
theorem lD.n1 (h : lD s A B o1 o2 hz) : ¬ A o1 := h.2.2.2.2.1
theorem lD.n2 (h : lD s A B o1 o2 hz) : ¬ A o2 := h.2.2.2.2.2.1
theorem lD.m1 (h : lD s A B o1 o2 hz) : ¬ B o1 := h.2.2.2.2.2.2.1
theorem lD.m2 (h : lD s A B o1 o2 hz) : ¬ B o2 := h.2.2.2.2.2.2.2.1
theorem lD.ne (h : lD s A B o1 o2 hz) : o1 ≠ o2 := h.2.2.2.2.2.2.2.2.1
theorem lD.ab (h : lD s A B o1 o2 hz) : ∀ q, A q → ¬ B q := h.2.2.2.2.2.2.2.2.2.1
theorem lD.hi9 (h : lD s A B o1 o2 hz) : ∀ q, hz ≤ q → A q := h.2.2.2.2.2.2.2.2.2.2
theorem lD.up (h : lD s A B o1 o2 hz) (hh : hz ≤ H.size) : ∀ q, H.size ≤ q → A q := fun q hq => h.hi9 q (Nat.le_trans hh hq)
/-- the statics, as the store's methods want them -/
theorem lD.z (h : lD s A B o1 o2 hz) (hZ : qSZ es (lF s) s s.heap) {locs : List Loc} (hS : va_S (lF s) s.heap H locs) : qSZ es A s H := (hZ.kept (fun a h1 h2 => hS.2.1 a h1 h2)).narrow h.a
theorem lD.w1 (h : lD s A B o1 o2 hz) (hW : rW G B ρ bd H) (hk : ∀ q : Nat, q < H.size → ¬ (A q ∨ q = o1) → H1[q]? = H[q]?) : rW G B ρ bd H1 := qPW.kept hW (fun k j e hv => hk _ (hW.to hv).lt (fun z => z.elim (fun y => h.ab _ y (hW.in hv)) (fun y => h.m1 (by rw [← y]; exact hW.in hv))))
theorem lD.w2 (h : lD s A B o1 o2 hz) (hW : rW G B ρ bd H) (hk : ∀ q : Nat, q < H.size → ¬ (A q ∨ q = o2) → H1[q]? = H[q]?) : rW G B ρ bd H1 := qPW.kept hW (fun k j e hv => hk _ (hW.to hv).lt (fun z => z.elim (fun y => h.ab _ y (hW.in hv)) (fun y => h.m2 (by rw [← y]; exact hW.in hv))))
theorem lD.c1 (h : lD s A B o1 o2 hz) {e : va_E} (hat : va_at G.1 vwCl (o2, e) H) (hk : ∀ q : Nat, q < H.size → ¬ (A q ∨ q = o1) → H1[q]? = H[q]?) : va_at G.1 vwCl (o2, e) H1 := hat.kept (hk o2 hat.lt (fun z => z.elim h.n2 (fun y => h.ne y.symm)))
theorem lD.c2 (h : lD s A B o1 o2 hz) {e : va_E} (hat : va_at G.1 vwCl (o1, e) H) (hk : ∀ q : Nat, q < H.size → ¬ (A q ∨ q = o2) → H1[q]? = H[q]?) : va_at G.1 vwCl (o1, e) H1 := hat.kept (hk o1 hat.lt (fun z => z.elim h.n1 h.ne))
theorem lD.wB (h : lD s A B o1 o2 hz) (hW : qLW G es A σ ad H) (hk : ∀ q : Nat, q < H.size → ¬ B q → H1[q]? = H[q]?) : qLW G es A σ ad H1 := qPW.kept hW (fun k j e hv => hk _ (hW.to hv).lt (h.ab _ (hW.in hv)))
theorem lD.k1 (h : lD s A B o1 o2 hz) {e : va_E} (hat : va_at G.1 vwCl (o1, e) H) (hk : ∀ q : Nat, q < H.size → ¬ B q → H1[q]? = H[q]?) : va_at G.1 vwCl (o1, e) H1 := hat.kept (hk o1 hat.lt h.m1)
theorem lD.k2 (h : lD s A B o1 o2 hz) {e : va_E} (hat : va_at G.1 vwCl (o2, e) H) (hk : ∀ q : Nat, q < H.size → ¬ B q → H1[q]? = H[q]?) : va_at G.1 vwCl (o2, e) H1 := hat.kept (hk o2 hat.lt h.m2)
end LS
theorem va_S.forget {s : State} {H : Heap} {locs : List Loc} (h : va_S (lF s) s.heap H locs) : va_S (lF s) s.heap H [] := ⟨h.1, h.2.1, fun _ z => nomatch z⟩
theorem l_cmp (x : Int64) : lg_cmp x x = nI 0 := by
  unfold lg_cmp
  rw [if_neg (by simp), if_pos rfl]
  exact nI_0.symm
theorem l_rT {ρ : QSt} {σ : QSt} (h : zRel σ ρ) : zRel σ (rT ρ) := h.thr 0
theorem l_qB {P Q : Prop} [Decidable P] [Decidable Q] (h : P ↔ Q) : nI (qB P) = nI (qB Q) := by rw [qB_c h]
/-- the reference's well-formedness, out of the relation -/
theorem rWF.of {σ ρ : QSt} (hv : zIv σ) (hR : zRel σ ρ) (hb : ∀ r i, ρ r i < 1073741824) : rWF ρ := by
  have hF := hv.1.wf
  have hn := hF.n
  refine ⟨hb, ?_, fun j hj => ?_, fun a ha => ?_, fun f hf => ?_⟩
  · rw [hR.n (by decide), hR.n (by decide), hR.n (by decide), hR.n (by decide), hR.n (by decide)]; exact hn
  · rw [hR.n (by decide)] at hj
    rw [hR.l hj (r := 67) (by omega), hR.l hj (r := 66) (by omega), hR.t]
    exact ⟨hF.came hj, hF.byt hj⟩
  · rw [hR.n (by decide)] at ha
    obtain ⟨z1, z2, z3, z4, z5, z6, z7, z8, z9, z10⟩ := hv.1.ia a ha
    rw [hR.a ha (r := 146) (by omega), hR.a ha (r := 131) (by omega), hR.a ha (r := 133) (by omega), hR.n (by decide)]
    refine ⟨hF.plc ha, fun y => ?_, z2⟩
    have h0 := (z10 y).1
    rw [hR.2.1 a ha h0]
    have := hF.fir ha
    omega
  · rw [hR.n (by decide)] at hf
    rw [hR.f hf (r := 160) (by omega), hR.n (by decide)]
    exact hF.alt hf
