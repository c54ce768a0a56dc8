/-! what holds is carried over where rows don't change -/
theorem qsum_add (f g : Nat → Nat) : ∀ n, qsum (fun i => f i + g i) n = qsum f n + qsum g n
  | 0 => rfl
  | n + 1 => by rw [qsum, qsum, qsum, qsum_add f g n]; omega
theorem qdf_congr {P Q P2 Q2 : Nat → Nat} (h1 : ∀ k, k < 3 → P2 k = P k) (h2 : ∀ k, k < 3 → Q2 k = Q k) : qdf P2 Q2 3 = qdf P Q 3 := by
  rw [r_df3, r_df3, h1 0 (by decide), h1 1 (by decide), h1 2 (by decide), h2 0 (by decide), h2 1 (by decide), h2 2 (by decide)]
theorem zIa.of {σ τ : QSt} (h : zIa σ) (he : ∀ r j, r = 0 ∧ j = 2 ∨ (128 ≤ r ∧ r ≤ 134 ∧ r ≠ 132) → τ r j = σ r j) (hf : ∀ j, j < σ 0 3 → τ 160 j = σ 160 j ∧ τ 162 j = σ 162 j) (hF : qWF σ) : zIa τ := by
  intro a ha
  rw [he 0 2 (Or.inl ⟨rfl, rfl⟩)] at ha
  have g := h a ha
  have g2 := hF.fir ha
  rw [he 131 a (by omega), he 133 a (by omega), he 130 a (by omega), he 128 a (by omega), he 129 a (by omega), he 134 a (by omega)]
  refine ⟨g.1, g.2.1, g.2.2.1, g.2.2.2.1, g.2.2.2.2.1, g.2.2.2.2.2.1, g.2.2.2.2.2.2.1, g.2.2.2.2.2.2.2.1, fun z => ?_, fun z => ?_⟩
  · rw [(hf _ (by omega)).1]; exact g.2.2.2.2.2.2.2.2.1 z
  · have q := g.2.2.2.2.2.2.2.2.2 z
    refine ⟨q.1, ?_⟩
    rw [(hf _ (by have := q.1; omega)).2]; exact q.2
theorem zIg.of {σ τ : QSt} {κ : Nat → Nat → Nat} (h : zIg σ κ) (he : ∀ r j, (r = 0 ∧ (j = 0 ∨ j = 2 ∨ j = 3)) ∨ r = 70 ∨ r = 132 ∨ 1000 ≤ r → τ r j = σ r j) : zIg τ κ := by
  have e0 : τ 0 0 = σ 0 0 := he 0 0 (by omega)
  have e2 : τ 0 2 = σ 0 2 := he 0 2 (by omega)
  have e3 : τ 0 3 = σ 0 3 := he 0 3 (by omega)
  refine ⟨h.1, fun a ha => ?_, fun l hl => ?_, fun l hl => ?_⟩
  · rw [e2] at ha
    rw [e0, he 132 a (by omega)]; exact h.2.1 a ha
  · rw [e0] at hl
    rw [e2, e3, he 70 l (by omega), h.2.2.1 l hl]
    congr 1
    exact (qsum_congr _ (fun f _ => by rw [he (1000 + f) l (by omega)])).symm
  · rw [e0] at hl
    rw [he 70 l (by omega)]; exact h.2.2.2 l hl
theorem zIf.of {σ τ : QSt} (h : zIf σ) (he : ∀ r j, (r = 0 ∧ (j = 0 ∨ j = 3)) ∨ r = 162 ∨ r = 163 ∨ 1000 ≤ r → τ r j = σ r j) : zIf τ := by
  have e0 : τ 0 0 = σ 0 0 := he 0 0 (by omega)
  have e3 : τ 0 3 = σ 0 3 := he 0 3 (by omega)
  intro f hf
  rw [e3] at hf
  have g := h f hf
  rw [e0, he 163 f (by omega), he 162 f (by omega), show τ (1000 + f) = σ (1000 + f) from funext fun l => he _ l (by omega)]
  exact g
theorem zIp.of {σ τ : QSt} (h : zIp σ) (he : ∀ r j, (r = 0 ∧ j < 2) ∨ r = 64 ∨ r = 68 ∨ (80 ≤ r ∧ r ≤ 82) ∨ (96 ≤ r ∧ r ≤ 97) ∨ (112 ≤ r ∧ r ≤ 114) → τ r j = σ r j) : zIp τ := by
  have e0 : τ 0 0 = σ 0 0 := he 0 0 (by omega)
  have e1 : τ 0 1 = σ 0 1 := he 0 1 (by omega)
  refine ⟨by rw [e0, e1]; exact h.1, fun l hl => ?_, fun p q h1 h2 s0 h3 => ?_, fun p hp => ?_⟩
  · rw [e0] at hl
    have g := h.2.1 l hl
    rw [he 68 l (by omega), he 97 _ (by omega), he 64 l (by omega), he 96 _ (by omega)]
    refine ⟨g.1, g.2.1, fun k hk => ?_⟩
    show τ (112 + k) (σ 68 l) = 0 ∨ τ (112 + k) (σ 68 l) = τ (80 + k) l + 1
    rw [he (112 + k) _ (by omega), he (80 + k) _ (by omega)]
    exact g.2.2 k hk
  · rw [e1] at h2
    unfold rMy at h3
    rw [he 96 p (by omega), he 96 q (by omega), he 97 p (by omega), he 97 q (by omega), qdf_congr (P := fun k => σ (112 + k) p) (Q := fun k => σ (112 + k) q) (fun k hk => he (112 + k) p (by omega)) (fun k hk => he (112 + k) q (by omega))] at h3
    exact h.2.2.1 p q h1 h2 s0 h3
  · rw [e1] at hp
    rw [he 97 p (by omega)]; exact h.2.2.2 p hp
theorem zIo.of {σ τ : QSt} (h : zIo σ) (he : ∀ r j, (r = 0 ∧ (j = 0 ∨ j = 4)) ∨ r = 1 ∨ r = 65 ∨ r = 67 ∨ r = 69 ∨ r = 193 → τ r j = σ r j) (h70 : ∀ l, l < σ 0 0 → σ 69 l = 100 → σ 70 l = 0 → τ 70 l = 0) (hmc : ∀ j, j < 5 → τ 16 j = τ 0 j) : zIo τ := by
  have e0 : τ 0 0 = σ 0 0 := he 0 0 (by omega)
  have e4 : τ 0 4 = σ 0 4 := he 0 4 (by omega)
  obtain ⟨g1, g2, g3, g4, g5, g6⟩ := h
  refine ⟨fun i j h1 h2 => ?_, fun l hl hd => ?_, fun l hl => ?_, fun x hx => ?_, fun j hj => ?_, ?_⟩
  · rw [e0] at h2
    rw [he 67 i (by omega), he 67 j (by omega)]; exact g1 i j h1 h2
  · rw [e0] at hl
    rw [he 69 l (by omega)] at hd
    exact h70 l hl hd (g2 l hl hd)
  · rw [e0] at hl
    rw [he 65 l (by omega)]; exact g3 l hl
  · rw [e4] at hx
    rw [he 193 x (by omega)]; exact g4 x hx
  · exact hmc j hj
  · rw [he 1 0 (by omega)]; exact g6
/-! a firing stands on the lines that are counted -/
theorem zSt_r {X : QSt} {a f r j : Nat} (h1 : r ≠ 70) (h2 : r ≠ 163) (h3 : r ≠ 1000 + f) : qfSt X a f r j = X r j := qfStS_r X a f 0 j h1 h2 h3
theorem zSt_m {X : QSt} {a f l : Nat} : qfSt X a f (1000 + f) l = 1 ↔ (X (1000 + f) l = 1 ∨ (l < X 0 0 ∧ qcn X a l)) := by
  unfold qfSt qfStS
  rw [qset_k (by omega)]
  by_cases c : 0 ≤ l ∧ l < X 0 0 ∧ qnw X a f l
  · rw [qset_in c]
    exact ⟨fun _ => Or.inr ⟨c.2.1, c.2.2.1⟩, fun _ => rfl⟩
  · rw [qset_out c, qup_k (by omega)]
    constructor
    · exact Or.inl
    · rintro (h | ⟨h1, h2⟩)
      · exact h
      · exact Classical.byContradiction fun q => c ⟨Nat.zero_le _, h1, h2, q⟩
theorem zSt_70 {X : QSt} {a f l : Nat} : qfSt X a f 70 l = X 70 l + qB (l < X 0 0 ∧ qnw X a f l) := by
  unfold qfSt qfStS
  by_cases c : 0 ≤ l ∧ l < X 0 0 ∧ qnw X a f l
  · rw [qset_in c, qB_t c.2]
  · rw [qset_out c, qset_k (by omega), qup_k (by decide), qB_f (fun z => c ⟨Nat.zero_le _, z⟩)]
    rfl
theorem zSt_163 {X : QSt} {a f g : Nat} : qfSt X a f 163 g = if g = f then X 163 f + qfrom (qnw X a f) 0 (X 0 0) else X 163 g := by
  unfold qfSt qfStS
  rw [qset_k (by decide), qset_k (by omega)]
  by_cases c : g = f
  · rw [if_pos c, c, qup_s]
  · rw [if_neg c, qup_j c]
theorem zRel.st {X Y : QSt} (h : zRel X Y) {a f : Nat} (hf : f < X 0 3) (h0 : X 162 f = 0) (ha : a < X 0 2) (hP : X 146 a ≤ 3) (h135 : Y 135 a = f) : zRel (qfSt X a f) (rLkS Y a (Y 0 0)) := by
  obtain ⟨g1, g2, g3, g4, g5, g6, g7⟩ := id h
  have e : ∀ j, qfSt X a f 0 j = X 0 j := fun j => zSt_r (by decide) (by decide) (by omega)
  have eY : ∀ r j, r < 1000 → rLkS Y a (Y 0 0) r j = Y r j := fun r j hr => rLkS_r hr
  refine ⟨fun r j hd => ?_, fun x hx z => ?_, fun g hg l => ?_, fun x hx => ?_, fun p hp => ?_, fun x hx => ?_, fun g hg => ?_⟩
  · have q := hd.ne
    rw [eY r j q.2.2.2.2.2.2.2.2.2.2.2, zSt_r q.2.2.2.1 q.2.2.2.2.2.2.2.1 (by omega)]
    exact g1 r j (hd.cast (e _) (e _) (e _) (e _) (e _))
  · rw [e] at hx
    rw [zSt_r (by decide) (by decide) (by omega)] at z ⊢
    rw [eY 135 x (by decide)]
    exact g2 x hx z
  · rw [e] at hg
    rw [eY 162 g (by decide)]
    by_cases c : g = f
    · subst c
      rw [zSt_m, g3 g hg l]
      have hm : rLkS Y a (Y 0 0) (1000 + g) l = 1 ↔ ((l < Y 0 0 ∧ qcn Y a l) ∨ Y (1000 + g) l = 1) := by
        unfold rLkS
        rw [h135]
        by_cases q : l < Y 0 0 ∧ qcn Y a l
        · rw [qset_in q]; exact ⟨fun _ => Or.inl q, fun _ => rfl⟩
        · rw [qset_out q]; exact ⟨Or.inr, fun z => z.elim (fun y => absurd y q) id⟩
      rw [hm, h.n (by decide)]
      have h162 : Y 162 g = 0 := (h.f hf (r := 162) (by omega)).trans h0
      constructor
      · rintro (⟨_, y⟩ | ⟨y1, y2⟩)
        · exact ⟨h162, Or.inr y⟩
        · exact ⟨h162, Or.inl ⟨y1, (h.cn ha y1 hP).mpr y2⟩⟩
      · rintro ⟨_, ⟨y1, y2⟩ | y⟩
        · exact Or.inr ⟨y1, (h.cn ha y1 hP).mp y2⟩
        · exact Or.inl ⟨h162, y⟩
    · rw [zSt_r (by omega) (by omega) (by omega), g3 g hg l]
      unfold rLkS
      rw [h135, qset_k (by omega)]
  · rw [e] at hx
    rw [eY 195 x (by decide), zSt_r (by decide) (by decide) (by omega), zSt_r (by decide) (by decide) (by omega)]
    exact g4 x hx
  · rw [e] at hp
    rw [eY 97 p (by decide)]; exact g5 p hp
  · rw [e] at hx
    rw [eY 133 x (by decide)]; exact g6 x hx
  · rw [e] at hg
    refine ⟨by rw [eY 162 g (by decide)]; exact (g7 g hg).1, fun l => ?_⟩
    unfold rLkS
    rw [h135, qset_k (by omega)]
    exact (g7 g hg).2 l
theorem zIw.st {X : QSt} {κ : Nat → Nat → Nat} (h : zIw X κ) {a f : Nat} (hf : f < X 0 3) (h0 : X 162 f = 0) (ha : a < X 0 2) : zIw (qfSt X a f) κ := by
  obtain ⟨hF, ia, ig, iff_, ip, io⟩ := id h
  have e : ∀ j, qfSt X a f 0 j = X 0 j := fun j => zSt_r (by decide) (by decide) (by omega)
  have hg := (ig.le hF).2
  have hs := iff_.le hF hf
  have hq : ∀ l, l < X 0 0 → qB (qfSt X a f (1000 + f) l = 1) = qB (X (1000 + f) l = 1) + qB (l < X 0 0 ∧ qnw X a f l) := by
    intro l hl
    by_cases c : X (1000 + f) l = 1
    · rw [qB_t c, qB_t (zSt_m.mpr (Or.inl c)), qB_f (fun z => z.2.2 c)]
    · rw [qB_f c]
      by_cases d : qcn X a l
      · rw [qB_t (zSt_m.mpr (Or.inr ⟨hl, d⟩)), qB_t ⟨hl, d, c⟩]
      · rw [qB_f (fun z => (zSt_m.mp z).elim c (fun y => d y.2)), qB_f (fun z => d z.2.1)]
  refine ⟨qfStS_wf hF a f 0 (by omega) (fun l => by have := hg l; omega), ?_, ?_, ?_, ?_, ?_⟩
  · exact ia.of (fun r j hr => zSt_r (by omega) (by omega) (by omega)) (fun j hj => ⟨zSt_r (by decide) (by decide) (by omega), zSt_r (by decide) (by decide) (by omega)⟩) hF
  · refine ⟨ig.1, fun x hx => ?_, fun l hl => ?_, fun l hl => ?_⟩
    · rw [e] at hx ⊢
      rw [zSt_r (by decide) (by decide) (by omega)]; exact ig.2.1 x hx
    · rw [e] at hl
      rw [e, e, zSt_70, ig.2.2.1 l hl]
      have hu := qsum_upd (f := fun g => qB (X (1000 + g) l = 1)) (g := fun g => qB (qfSt X a f (1000 + g) l = 1)) (l0 := f) (fun g hgf => by
        show qB (qfSt X a f (1000 + g) l = 1) = qB (X (1000 + g) l = 1)
        rw [zSt_r (by omega) (by omega) (by omega)]) (X 0 3) hf
      have hu2 : qsum (fun g => qB (qfSt X a f (1000 + g) l = 1)) (X 0 3) + qB (X (1000 + f) l = 1) = qsum (fun g => qB (X (1000 + g) l = 1)) (X 0 3) + qB (qfSt X a f (1000 + f) l = 1) := hu
      rw [hq l hl] at hu2
      omega
    · rw [e] at hl
      rw [zSt_70, qB_f (fun z => by omega), ig.2.2.2 l hl]
  · intro g hgn
    rw [e] at hgn
    have q := iff_ g hgn
    rw [e, zSt_r (r := 162) (by decide) (by decide) (by omega)]
    by_cases c : g = f
    · subst c
      refine ⟨fun l hl => (zSt_m.mp hl).elim (q.1 l) And.left, ?_, q.2.2.1, fun z => absurd h0 z⟩
      rw [zSt_163, if_pos rfl, qsum_congr (f := fun l => qB (X (1000 + g) l = 1) + qB (l < X 0 0 ∧ qnw X a g l)) _ hq, qsum_add, ← q.2.1]
      congr 1
      unfold qfrom
      exact qsum_congr _ (fun l hl => qB_c ⟨fun z => ⟨hl, z.2⟩, fun z => ⟨Nat.zero_le _, z.2⟩⟩)
    · rw [zSt_163, if_neg c, show qfSt X a f (1000 + g) = X (1000 + g) from funext fun l => zSt_r (by omega) (by omega) (by omega)]
      exact q
  · exact ip.of (fun r j hr => zSt_r (by omega) (by omega) (by omega))
  · refine io.of (fun r j hr => zSt_r (by omega) (by omega) (by omega)) (fun l hl hd h70 => ?_) (fun j hj => by rw [e, zSt_r (by decide) (by decide) (by omega)]; exact io.2.2.2.2.1 j hj)
    rw [zSt_70, h70, qB_f (fun z => z.2.1.1 hd)]
/-! an alert's state -/
theorem zIw.al {σ : QSt} {κ : Nat → Nat → Nat} (h : zIw σ κ) {a v w : Nat} (ha : a < σ 0 2) (hv : v = 113 ∨ v = 102 ∨ v = 104) (h1 : v = 104 → 1 ≤ w) (h2 : v ≠ 104 → w = 0) (hw : w ≤ 20) (h3 : v ≠ 113 → σ 134 a ≠ 0 ∧ σ 162 (σ 134 a - 1) = 0) : zIw (qup (qup σ 131 a v) 133 a w) κ := by
  obtain ⟨hF, ia, ig, iff_, ip, io⟩ := id h
  have e : ∀ r j, r ≠ 131 → r ≠ 133 → qup (qup σ 131 a v) 133 a w r j = σ r j := fun r j q1 q2 => (qup_k q2).trans (qup_k q1)
  refine ⟨?_, ?_, ig.of (fun r j hr => e r j (by omega) (by omega)), iff_.of (fun r j hr => e r j (by omega) (by omega)), ip.of (fun r j hr => e r j (by omega) (by omega)), io.of (fun r j hr => e r j (by omega) (by omega)) (fun l _ _ z => (e 70 l (by decide) (by decide)).trans z) io.2.2.2.2.1⟩
  · exact (hF.up 131 a v (by decide) (by omega) (by decide) (fun z => absurd z (by decide)) (fun z => absurd z (by decide)) (fun _ => by omega) (fun z => absurd z (by decide))).up 133 a w (by decide) (by omega) (by decide) (fun z => absurd z (by decide)) (fun z => absurd z (by decide)) (fun z => absurd z (by decide)) (fun z => absurd z (by decide))
  · intro x hx
    have hx2 : x < σ 0 2 := hx
    have g := ia x hx2
    rw [e 130 x (by decide) (by decide), e 128 x (by decide) (by decide), e 129 x (by decide) (by decide), e 134 x (by decide) (by decide), e 160 _ (by decide) (by decide), e 162 _ (by decide) (by decide), show qup (qup σ 131 a v) 133 a w 131 x = qup σ 131 a v 131 x from qup_k (by decide)]
    by_cases c : x = a
    · subst c
      rw [qup_s, qup_s]
      exact ⟨hv, h1, h2, hw, g.2.2.2.2.1, g.2.2.2.2.2.1, g.2.2.2.2.2.2.1, g.2.2.2.2.2.2.2.1, g.2.2.2.2.2.2.2.2.1, h3⟩
    · rw [qup_j c, qup_j c, show qup σ 131 a v 133 x = σ 133 x from qup_k (by decide)]
      exact g
/-! a new firing -/
def rNf (ρ : QSt) (a : Nat) : QSt := qup (qup (qup (qup ρ 135 a (ρ 0 3)) 160 (ρ 0 3) a) 161 (ρ 0 3) (ρ 1 0)) 0 3 (ρ 0 3 + 1)
theorem zNf_0 {σ : QSt} {a j : Nat} (h : j ≠ 3) : qfNf σ a 0 j = σ 0 j := qfNf_r (by omega) (by omega) (by omega) (by omega)
theorem zNf_m {σ : QSt} {a f : Nat} (h : f ≠ σ 0 3) : qfNf σ a (1000 + f) = σ (1000 + f) := funext fun l => qfNf_r (by omega) (by omega) (by omega) (by omega)
theorem zNf_f {σ : QSt} {a r v : Nat} (h : [(160, a), (161, σ 1 0), (162, 0), (163, 0)].find? (fun x => x.1 == r) = some (r, v)) (hr : 64 ≤ r ∧ r < 1000 ∧ r ≠ 134) : qfNf σ a r (σ 0 3) = v := (qfNf_lo hr.2.1 (by omega)).trans (qad_in h hr.1)
theorem zRel.nf {σ ρ : QSt} (h : zRel σ ρ) {a : Nat} (ha : a < σ 0 2) : zRel (qfNf σ a) (rNf ρ a) := by
  obtain ⟨g1, g2, g3, g4, g5, g6, g7⟩ := id h
  have h3 : ρ 0 3 = σ 0 3 := h.n (by decide)
  have h1 : ρ 1 0 = σ 1 0 := h.t
  have e3 : qfNf σ a 0 3 = σ 0 3 + 1 := qfNf_03
  have eπ : ∀ r j, r ≠ 0 → r ≠ 135 → r ≠ 160 → r ≠ 161 → rNf ρ a r j = ρ r j := fun r j q0 q1 q2 q3 => by
    unfold rNf
    rw [qup_k q0, qup_k q3, qup_k q2, qup_k q1]
  have f160 : qfNf σ a 160 (σ 0 3) = a := zNf_f (r := 160) rfl (by decide)
  have f161 : qfNf σ a 161 (σ 0 3) = σ 1 0 := zNf_f (r := 161) rfl (by decide)
  have f162 : qfNf σ a 162 (σ 0 3) = 0 := zNf_f (r := 162) rfl (by decide)
  refine ⟨fun r j hd => ?_, fun x hx z => ?_, fun g hg l => ?_, fun x hx => ?_, fun p hp => ?_, fun x hx => ?_, fun g hg => ?_⟩
  · have q := hd.ne
    have hd2 := hd.c3 (zNf_0 (by decide)) (zNf_0 (by decide)) (zNf_0 (by decide)) e3 (zNf_0 (by decide))
    by_cases c0 : r = 0
    · subst c0
      by_cases c3 : j = 3
      · subst c3; rw [e3]; unfold rNf; rw [qup_s, h3]
      · rw [zNf_0 c3]
        unfold rNf
        rw [qup_j c3]
        rcases hd2 with z | z
        · exact absurd z.1 (by decide)
        · exact g1 0 j z
    by_cases c : zf r ∧ j = σ 0 3
    · obtain ⟨c1, rfl⟩ := c
      rcases (show r = 160 ∨ r = 161 ∨ r = 162 by omega) with rfl | rfl | rfl
      · rw [f160]; unfold rNf; rw [qup_k (by decide), qup_k (by decide), h3, qup_s]
      · rw [f161]; unfold rNf; rw [qup_k (by decide), h3, qup_s, h1]
      · rw [f162, eπ 162 _ (by decide) (by decide) (by decide) (by decide)]; exact (g7 _ (Nat.le_refl _)).1
    · obtain ⟨q1, q2, q3, q4, q5, q6, q7, q8, q9, q10, q11, q12⟩ := q
      have hz := hd2.resolve_left c
      have c5 : ¬ (160 ≤ r ∧ r < 192 ∧ j = σ 0 3) := fun z => c ⟨by unfold zD at hd; have := z.1; have := z.2.1; rcases hd with h | h | h | ⟨h, _⟩ | ⟨h, _⟩ | ⟨h, _⟩ | ⟨h, _⟩ | ⟨h, _⟩ <;> omega, z.2.2⟩
      clear hd hd2 c
      have e1 : qfNf σ a r j = σ r j := qfNf_r c5 (by omega) (by omega) (by omega)
      have e2 : rNf ρ a r j = ρ r j := by
        unfold rNf
        rw [qup_k c0]
        unfold qup
        rw [if_neg (by omega), if_neg (by omega), if_neg (by omega)]
      rw [e1, e2]
      exact g1 r j hz
  · rw [zNf_0 (by decide)] at hx
    by_cases c : x = a
    · subst c
      rw [qfNf_134]
      unfold rNf
      rw [qup_k (by decide), qup_k (by decide), qup_k (by decide), qup_s, h3]
      omega
    · have e1 : qfNf σ a 134 x = σ 134 x := qfNf_r (by omega) (by omega) (by omega) (by omega)
      rw [e1] at z ⊢
      unfold rNf
      rw [qup_k (by decide), qup_k (by decide), qup_k (by decide), qup_j c]
      exact g2 x hx z
  · rw [e3] at hg
    rw [eπ 162 g (by decide) (by decide) (by decide) (by decide), eπ (1000 + g) l (by omega) (by omega) (by omega) (by omega)]
    by_cases c : g = σ 0 3
    · subst c
      rw [qfNf_row]
      exact ⟨fun z => absurd z (by decide), fun z => absurd z.2 ((g7 _ (Nat.le_refl _)).2 l)⟩
    · rw [zNf_m c]
      exact g3 g (by omega) l
  · rw [zNf_0 (by decide)] at hx
    rw [eπ 195 x (by decide) (by decide) (by decide) (by decide), show qfNf σ a 193 x = σ 193 x from qfNf_r (by omega) (by omega) (by omega) (by omega), show qfNf σ a 194 x = σ 194 x from qfNf_r (by omega) (by omega) (by omega) (by omega)]
    exact g4 x hx
  · rw [zNf_0 (by decide)] at hp
    rw [eπ 97 p (by decide) (by decide) (by decide) (by decide)]; exact g5 p hp
  · rw [zNf_0 (by decide)] at hx
    rw [eπ 133 x (by decide) (by decide) (by decide) (by decide)]; exact g6 x hx
  · rw [e3] at hg
    refine ⟨by rw [eπ 162 g (by decide) (by decide) (by decide) (by decide)]; exact (g7 g (by omega)).1, fun l => by rw [eπ (1000 + g) l (by omega) (by omega) (by omega) (by omega)]; exact (g7 g (by omega)).2 l⟩
theorem zIw.nf {σ : QSt} {κ : Nat → Nat → Nat} (h : zIw σ κ) {a : Nat} (ha : a < σ 0 2) (hn : σ 0 3 < 1300) : zIw (qfNf σ a) κ := by
  obtain ⟨hF, ia, ig, iff_, ip, io⟩ := id h
  have h16 := io.2.2.2.2.1 3 (by decide)
  have e3 : qfNf σ a 0 3 = σ 0 3 + 1 := qfNf_03
  have e0 : ∀ j, j ≠ 3 → qfNf σ a 0 j = σ 0 j := fun j hj => zNf_0 hj
  have e : ∀ r j, r ≠ 0 → r ≠ 16 → r ≠ 32 → r ≠ 134 → (r < 160 ∨ 192 ≤ r) → r < 1000 → qfNf σ a r j = σ r j := fun r j _ _ _ _ _ _ => qfNf_r (by omega) (by omega) (by omega) (by omega)
  have f160 : qfNf σ a 160 (σ 0 3) = a := zNf_f (r := 160) rfl (by decide)
  have f162 : qfNf σ a 162 (σ 0 3) = 0 := zNf_f (r := 162) rfl (by decide)
  have f163 : qfNf σ a 163 (σ 0 3) = 0 := zNf_f (r := 163) rfl (by decide)
  have ef : ∀ r j, 160 ≤ r → r < 192 → j ≠ σ 0 3 → qfNf σ a r j = σ r j := fun r j _ _ _ => qfNf_r (by omega) (by omega) (by omega) (by omega)
  refine ⟨qfNf_wf hF ha hn (by omega), ?_, ?_, ?_, ?_, ?_⟩
  · intro x hx
    rw [e0 2 (by decide)] at hx
    have g := ia x hx
    have gf := hF.fir hx
    rw [e 131 x (by decide) (by decide) (by decide) (by decide) (by decide) (by decide), e 133 x (by decide) (by decide) (by decide) (by decide) (by decide) (by decide), e 130 x (by decide) (by decide) (by decide) (by decide) (by decide) (by decide), e 128 x (by decide) (by decide) (by decide) (by decide) (by decide) (by decide), e 129 x (by decide) (by decide) (by decide) (by decide) (by decide) (by decide)]
    refine ⟨g.1, g.2.1, g.2.2.1, g.2.2.2.1, g.2.2.2.2.1, g.2.2.2.2.2.1, g.2.2.2.2.2.2.1, g.2.2.2.2.2.2.2.1, ?_⟩
    by_cases c : x = a
    · subst c
      rw [qfNf_134, Nat.add_sub_cancel, f160, f162]
      exact ⟨fun _ => rfl, fun _ => ⟨Nat.succ_ne_zero _, rfl⟩⟩
    · rw [show qfNf σ a 134 x = σ 134 x from qfNf_r (by omega) (by omega) (by omega) (by omega)]
      refine ⟨fun z => ?_, fun z => ?_⟩
      · rw [ef 160 _ (by decide) (by decide) (by omega)]; exact g.2.2.2.2.2.2.2.2.1 z
      · have q := g.2.2.2.2.2.2.2.2.2 z
        have q1 := q.1
        exact ⟨q.1, by rw [ef 162 _ (by decide) (by decide) (by omega)]; exact q.2⟩
  · refine ⟨ig.1, fun x hx => ?_, fun l hl => ?_, fun l hl => ?_⟩
    · rw [e0 2 (by decide)] at hx
      rw [e0 0 (by decide), e 132 x (by decide) (by decide) (by decide) (by decide) (by decide) (by decide)]
      exact ig.2.1 x hx
    · rw [e0 0 (by decide)] at hl
      rw [e0 2 (by decide), e3, e 70 l (by decide) (by decide) (by decide) (by decide) (by decide) (by decide), ig.2.2.1 l hl, qsum, qfNf_row, qB_f (by decide)]
      congr 1
      exact (qsum_congr _ (fun g hg => by rw [zNf_m (by omega)])).symm
    · rw [e0 0 (by decide)] at hl
      rw [e 70 l (by decide) (by decide) (by decide) (by decide) (by decide) (by decide)]
      exact ig.2.2.2 l hl
  · intro g hg
    rw [e3] at hg
    rw [e0 0 (by decide)]
    by_cases c : g = σ 0 3
    · subst c
      refine ⟨fun l hl => ?_, ?_, by rw [f162]; decide, fun z => absurd f162 z⟩
      · rw [qfNf_row] at hl; exact absurd hl (by decide)
      · rw [f163]
        exact (qsum_zero _ (fun l _ => qB_f (by rw [qfNf_row]; decide))).symm
    · rw [ef 163 g (by decide) (by decide) c, ef 162 g (by decide) (by decide) c, zNf_m c]
      exact iff_ g (by omega)
  · refine ip.of (fun r j hr => ?_)
    by_cases c : r = 0
    · subst c; exact e0 j (by omega)
    · exact e r j c (by omega) (by omega) (by omega) (by omega) (by omega)
  · refine io.of (fun r j hr => ?_) (fun l _ _ z => (e 70 l (by decide) (by decide) (by decide) (by decide) (by decide) (by decide)).trans z) (fun j hj => ?_)
    · by_cases c : r = 0
      · subst c; exact e0 j (by omega)
      · exact e r j c (by omega) (by omega) (by omega) (by omega) (by omega)
    · by_cases c : j = 3
      · subst c
        rw [e3, show qfNf σ a 16 3 = σ 16 3 + 1 from (qfNf_lo (by decide) (by omega)).trans (qad_16 qfNf_ha), h16]
      · rw [e0 j c, show qfNf σ a 16 j = σ 16 j from qfNf_r (by omega) (by omega) (by omega) (by omega)]
        exact io.2.2.2.2.1 j hj
