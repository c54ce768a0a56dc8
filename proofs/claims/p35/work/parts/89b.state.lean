/-! the law: its state -/
abbrev lF (s : State) : Nat → Prop := fun q => s.heap.size ≤ q
def lD (s : State) (A : Nat → Prop) (zm za zb hz : Nat) : Prop := (∀ q, A q → s.heap.size ≤ q) ∧ (s.heap.size ≤ zm ∧ s.heap.size ≤ za ∧ s.heap.size ≤ zb) ∧ (¬ A zm ∧ ¬ A za ∧ ¬ A zb) ∧ (zm ≠ za ∧ zm ≠ zb ∧ za ≠ zb) ∧ ∀ q, hz ≤ q → A q
def lC (p : Program) (l : Launch) (s : State) (m : MethodId) (meth : Method) (c : Code) (b L : Nat) (xs : Nat → Int32) (G : QG) (es zm za zb hz : Nat) (A : Nat → Prop) : Prop :=
  p.tables.exec = Jvm.exec ∧ c.code = cL_law ∧ c.maxLocals = 16 ∧ s.vm.findClass RL = some m.cls ∧ (∀ w ∈ wsL_law, w.before #[Value.ref b] s = true) ∧ meth.locks = false ∧ l.stackTraces = false ∧ va_X b L xs s s.heap ∧ b < s.heap.size ∧ qCX G s ∧ qSZ es (lF s) s s.heap ∧ qStr s ∧ qNc s ∧ L ≤ 260 ∧ lD s A zm za zb hz
/-- the store, the law's own rows, and what is known of them ahead of turn k -/
def lS (G : QG) (es : Nat) (A : Nat → Prop) (zm za zb hz : Nat) (s : State) (k : Nat) (σ ad : QSt) (mf af bf : Nat → Int32) (H : Heap) : Prop :=
  zIv σ ∧ jI σ ∧ qLW G es A σ ad H ∧ jM σ mf ∧ jAr σ af ∧ (∀ i, i < 4 → bf i = nI (σ 48 i)) ∧ va_at G.1 vwCl (zm, .inl (G.2 1, 1400, .inl mf)) H ∧ va_at G.1 vwCl (za, .inl (G.2 1, 49, .inl af)) H ∧ va_at G.1 vwCl (zb, .inl (G.2 1, 4, .inl bf)) H ∧ va_S (lF s) s.heap H [] ∧ hz ≤ H.size ∧ σ 0 0 ≤ k ∧ σ 1 0 ≤ 4 * k
section LS
variable {s : State} {A : Nat → Prop} {zm za zb hz es : Nat} {G : QG} {σ ad : QSt} {H H1 : Heap}
theorem lD.a (h : lD s A zm za zb hz) : ∀ q, A q → lF s q := h.1
theorem lD.up (h : lD s A zm za zb hz) (hh : hz ≤ H.size) : ∀ q, H.size ≤ q → A q := fun q hq => h.2.2.2.2 q (Nat.le_trans hh hq)
theorem lD.z (h : lD s A zm za zb hz) (hZ : qSZ es (lF s) s s.heap) {locs : List Loc} (hS : va_S (lF s) s.heap H locs) : qSZ es A s H := (hZ.kept (fun a h1 h2 => hS.2.1 a h1 h2)).narrow h.a
end LS
theorem va_S.forget {s : State} {H : Heap} {locs : List Loc} (h : va_S (lF s) s.heap H locs) : va_S (lF s) s.heap H [] := ⟨h.1, h.2.1, fun _ z => nomatch z⟩
/-- a line's row is put down -/
theorem jM_ext {σ τ : QSt} {g g2 : Nat → Int32} (h : jM σ g) (hK : jK σ τ) (h0 : τ 0 0 = σ 0 0) (hg : ∀ j, j < 7 * σ 0 0 → g2 j = g j) : jM τ g2 := fun l hl => by
  rw [h0] at hl
  obtain ⟨a1, a2, a3, a4, a5⟩ := h l hl
  rw [hg _ (by omega), hg _ (by omega), hg _ (by omega), hg _ (by omega), hK.1 64 l hl (by omega), hK.1 65 l hl (by omega), hK.1 66 l hl (by omega), hK.1 67 l hl (by omega)]
  exact ⟨a1, fun k hk => by rw [hg _ (by omega), hK.1 (80 + k) l hl (by omega)]; exact a2 k hk, a3, a4, a5⟩
theorem jM_new {σ τ : QSt} {g g2 : Nat → Int32} {s0 r0 x1 x2 x3 b0 : Nat} (h : jM σ g) (hN : jNew σ τ s0 r0 x1 x2 x3 b0) (hg : ∀ j, j < 7 * σ 0 0 → g2 j = g j) (v0 : g2 (7 * σ 0 0) = nI s0) (v1 : g2 (7 * σ 0 0 + 1) = nI r0) (v2 : g2 (7 * σ 0 0 + 2) = nI x1) (v3 : g2 (7 * σ 0 0 + 3) = nI x2) (v4 : g2 (7 * σ 0 0 + 4) = nI x3) (v5 : g2 (7 * σ 0 0 + 5) = nI b0) (v6 : g2 (7 * σ 0 0 + 6) = nI (σ 1 0)) : jM τ g2 := fun l hl => by
  obtain ⟨-, -, hK, h0, -, -, -, n64, n65, n66, n67, n80, n81, n82⟩ := hN
  by_cases c : l = σ 0 0
  · rw [c, v0, v1, v5, v6, n64, n65, n66, n67]
    refine ⟨rfl, fun k hk => ?_, rfl, rfl, rfl⟩
    rcases (show k = 0 ∨ k = 1 ∨ k = 2 by omega) with rfl | rfl | rfl
    · rw [show (80 + 0) = 80 from rfl, n80]; exact v2
    · rw [show (80 + 1) = 81 from rfl, n81]; exact v3
    · rw [show (80 + 2) = 82 from rfl, n82]; exact v4
  · rw [h0] at hl
    have hl2 : l < σ 0 0 := by omega
    obtain ⟨a1, a2, a3, a4, a5⟩ := h l hl2
    rw [hg _ (by omega), hg _ (by omega), hg _ (by omega), hg _ (by omega), hK.1 64 l hl2 (by omega), hK.1 65 l hl2 (by omega), hK.1 66 l hl2 (by omega), hK.1 67 l hl2 (by omega)]
    exact ⟨a1, fun k hk => by rw [hg _ (by omega), hK.1 (80 + k) l hl2 (by omega)]; exact a2 k hk, a3, a4, a5⟩
theorem jAr_ext {σ τ : QSt} {g g2 : Nat → Int32} (h : jAr σ g) (hK : jK σ τ) (h0 : τ 0 2 = σ 0 2) (hg : ∀ j, j < 7 * σ 0 2 → g2 j = g j) : jAr τ g2 := fun k hk => by
  rw [h0] at hk
  obtain ⟨a1, a2, a3, a4, a5, a6, a7⟩ := h k hk
  rw [hg _ (by omega), hg _ (by omega), hg _ (by omega), hg _ (by omega), hg _ (by omega), hg _ (by omega), hg _ (by omega), hK.2 144 k hk (by omega), hK.2 145 k hk (by omega), hK.2 146 k hk (by omega), hK.2 147 k hk (by omega), hK.2 128 k hk (by omega), hK.2 129 k hk (by omega), hK.2 130 k hk (by omega)]
  exact ⟨a1, a2, a3, a4, a5, a6, a7⟩
theorem jAr_new {σ τ : QSt} {g g2 : Nat → Int32} {s0 r0 P w0 g0 n0 h0 : Nat} (h : jAr σ g) (hK : jK σ τ) (h02 : τ 0 2 = σ 0 2 + 1) (hg : ∀ j, j < 7 * σ 0 2 → g2 j = g j) (t0 : τ 144 (σ 0 2) = s0) (t1 : τ 145 (σ 0 2) = r0) (t2 : τ 146 (σ 0 2) = P) (t3 : τ 147 (σ 0 2) = w0) (t4 : τ 128 (σ 0 2) = g0) (t5 : τ 129 (σ 0 2) = n0) (t6 : τ 130 (σ 0 2) = h0) (v0 : g2 (7 * σ 0 2) = nI s0) (v1 : g2 (7 * σ 0 2 + 1) = nI r0) (v2 : g2 (7 * σ 0 2 + 2) = nI P - 1) (v3 : g2 (7 * σ 0 2 + 3) = nI w0) (v4 : g2 (7 * σ 0 2 + 4) = nI g0) (v5 : g2 (7 * σ 0 2 + 5) = nI n0) (v6 : g2 (7 * σ 0 2 + 6) = nI h0) : jAr τ g2 := fun k hk => by
  by_cases c : k = σ 0 2
  · rw [c, t0, t1, t2, t3, t4, t5, t6]
    exact ⟨v0, v1, v2, v3, v4, v5, v6⟩
  · rw [h02] at hk
    have hk2 : k < σ 0 2 := by omega
    obtain ⟨a1, a2, a3, a4, a5, a6, a7⟩ := h k hk2
    rw [hg _ (by omega), hg _ (by omega), hg _ (by omega), hg _ (by omega), hg _ (by omega), hg _ (by omega), hg _ (by omega), hK.2 144 k hk2 (by omega), hK.2 145 k hk2 (by omega), hK.2 146 k hk2 (by omega), hK.2 147 k hk2 (by omega), hK.2 128 k hk2 (by omega), hK.2 129 k hk2 (by omega), hK.2 130 k hk2 (by omega)]
    exact ⟨a1, a2, a3, a4, a5, a6, a7⟩
/-- of the sources 2 and 3 no line is dropped -/
theorem jDrop {σ : QSt} (h : ∀ l, l < σ 0 0 → σ 64 l < 2) : qds σ = qdr σ 0 + qdr σ 1 := by
  have h2 : qdr σ 2 = 0 := qsum_zero _ (fun l hl => qB_f (fun z => by have := h l hl; omega))
  have h3 : qdr σ 3 = 0 := qsum_zero _ (fun l hl => qB_f (fun z => by have := h l hl; omega))
  unfold qds
  omega
theorem l_min6 {a : Nat} (h : a < 6) : (if nI (a + 1) < nI 6 then nI (a + 1) else nI 6) = nI (a + 1) := by
  by_cases c : a + 1 < 6
  · rw [if_pos ((nI_ltI (by omega) (by decide)).mpr c)]
  · rw [if_neg (fun z => c ((nI_ltI (by omega) (by decide)).mp z)), show a + 1 = 6 by omega]
theorem l_min7 {a : Nat} (h : a = 6) : (if nI (a + 1) < nI 6 then nI (a + 1) else nI 6) = nI a := by
  subst h
  rw [if_neg (fun z => absurd ((nI_ltI (by decide) (by decide)).mp z) (by decide))]
theorem l_P2 {D : va_G} {cl : List vw_C} {x y : Nat × va_E} {H : Heap} (hx : va_at D cl x H) (hy : va_at D cl y H) : va_P D cl [x, y] H := by
  intro k q hk
  match k, hk with
  | 0, hk => cases hk; exact hx
  | 1, hk => cases hk; exact hy
  | k + 2, hk => simp at hk
