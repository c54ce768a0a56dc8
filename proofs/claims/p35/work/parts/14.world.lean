/-! how the world goes on when a row of the state changes at a place -/
theorem qLV_row {G : QG} {es : Nat} {σ σ' ad : QSt} {k j : Nat} (hr : ∀ r, 16 * k ≤ r → r < 16 * k + 16 → σ' r j = σ r j) (hc : ∀ i, σ' 0 i = σ 0 i) (h32 : k = 1 → σ' 32 j = σ 32 j) (h1 : k = 0 → σ' 1 0 = σ 1 0) (h48 : k = 3 → ∀ i, σ' 48 i = σ 48 i) (hx : k = 11 → ∀ i, σ' (1000 + j) i = σ (1000 + j) i) : qLV G es σ' ad k j = qLV G es σ ad k j := by
  match k with
  | 0 => simp only [qLV]; rw [h1 rfl]
  | 1 => simp only [qLV]; rw [hr 16 (by omega) (by omega), h32 rfl, hc]
  | 2 => simp only [qLV]; rw [hr 32 (by omega) (by omega), hc]
  | 3 => simp only [qLV]; rw [show (fun i => nI (σ' 48 i)) = (fun i => nI (σ 48 i)) from funext fun i => by rw [h48 rfl i]]
  | 4 => simp only [qLV]; rw [hc, hr 64 (by omega) (by omega), hr 65 (by omega) (by omega), hr 66 (by omega) (by omega), hr 67 (by omega) (by omega), hr 68 (by omega) (by omega), hr 69 (by omega) (by omega), hr 70 (by omega) (by omega)]
  | 5 => simp only [qLV]; rw [hc, hr 80 (by omega) (by omega), hr 81 (by omega) (by omega), hr 82 (by omega) (by omega)]
  | 6 => simp only [qLV]; rw [hc, hr 96 (by omega) (by omega), hr 97 (by omega) (by omega)]
  | 7 => simp only [qLV]; rw [hc, hr 112 (by omega) (by omega), hr 113 (by omega) (by omega), hr 114 (by omega) (by omega)]
  | 8 => simp only [qLV]; rw [hc, hr 128 (by omega) (by omega), hr 129 (by omega) (by omega), hr 130 (by omega) (by omega), hr 131 (by omega) (by omega), hr 132 (by omega) (by omega), hr 133 (by omega) (by omega), hr 134 (by omega) (by omega)]
  | 9 => simp only [qLV]; rw [hc, hr 144 (by omega) (by omega), hr 145 (by omega) (by omega), hr 146 (by omega) (by omega), hr 147 (by omega) (by omega)]
  | 10 => simp only [qLV]; rw [hc, hr 160 (by omega) (by omega), hr 161 (by omega) (by omega), hr 162 (by omega) (by omega), hr 163 (by omega) (by omega)]
  | 11 => simp only [qLV]; rw [hc, show σ' (1000 + j) = σ (1000 + j) from funext (hx rfl)]
  | 12 => simp only [qLV]; rw [hc, hr 192 (by omega) (by omega), hr 193 (by omega) (by omega), hr 194 (by omega) (by omega)]
  | 13 => simp only [qLV]; rw [hc, hr 208 (by omega) (by omega), hr 209 (by omega) (by omega)]
  | k + 14 => rfl
theorem qLV_up {G : QG} {es : Nat} {σ ad : QSt} {k j : Nat} (r i v : Nat) (h1 : 64 ≤ r) (h2 : r < 224) (hne : ¬ (k = r / 16 ∧ j = i)) : qLV G es (qup σ r i v) ad k j = qLV G es σ ad k j := by
  refine qLV_row (fun q g1 g2 => ?_) (fun q => qup_k (by omega)) (fun _ => qup_k (by omega)) (fun _ => qup_k (by omega)) (fun _ q => qup_k (by omega)) (fun _ q => qup_k (by omega))
  by_cases c : q = r
  · subst c
    by_cases c2 : j = i
    · exact absurd ⟨by omega, c2⟩ hne
    · exact qup_j c2
  · exact qup_k c
theorem qLW.up {G : QG} {es : Nat} {A : Nat → Prop} {σ ad : QSt} {H H1 : Heap} (h : qLW G es A σ ad H) (r i v : Nat) (h1 : 64 ≤ r) (h2 : r < 224) {e0 e1 : va_E} (hv : qLV G es σ ad (r / 16) i = some e0) (hs : qLV G es (qup σ r i v) ad (r / 16) i = some e1) (he : va_at G.1 vwCl (ad (r / 16) i, e1) H1) (oq : ∀ q, q ≠ ad (r / 16) i → H1[q]? = H[q]?) : qLW G es A (qup σ r i v) ad H1 :=
  qPW.put h hv he oq hs (fun _ _ hne => qLV_up r i v h1 h2 hne)
theorem qLW.upNow {G : QG} {es : Nat} {A : Nat → Prop} {σ ad : QSt} {H H1 : Heap} (h : qLW G es A σ ad H) (v : Nat) {e1 : va_E} (hs : qLV G es (qup σ 1 0 v) ad 0 0 = some e1) (he : va_at G.1 vwCl (ad 0 0, e1) H1) (oq : ∀ q, q ≠ ad 0 0 → H1[q]? = H[q]?) : qLW G es A (qup σ 1 0 v) ad H1 :=
  qPW.put h qLV0 he oq hs (fun k j hne => by
    by_cases hk : k = 0
    · subst hk
      have hj : j ≠ 0 := fun z => hne ⟨rfl, z⟩
      simp only [qLV]
      rw [if_neg hj, if_neg hj]
    · exact qLV_row (fun q _ _ => qup_k (by omega)) (fun q => qup_k (by omega)) (fun _ => qup_k (by omega)) (fun z => absurd z hk) (fun _ q => qup_k (by omega)) (fun _ q => qup_k (by omega)))
theorem qLW.upBud {G : QG} {es : Nat} {A : Nat → Prop} {σ ad : QSt} {H H1 : Heap} (h : qLW G es A σ ad H) (i v : Nat) {e1 : va_E} (hs : qLV G es (qup σ 48 i v) ad 3 0 = some e1) (he : va_at G.1 vwCl (ad 3 0, e1) H1) (oq : ∀ q, q ≠ ad 3 0 → H1[q]? = H[q]?) : qLW G es A (qup σ 48 i v) ad H1 :=
  qPW.put h qLV3 he oq hs (fun k j hne => by
    by_cases hk : k = 3
    · subst hk
      have hj : j ≠ 0 := fun z => hne ⟨rfl, z⟩
      simp only [qLV]
      rw [if_neg hj, if_neg hj]
    · exact qLV_row (fun q _ _ => qup_k (by omega)) (fun q => qup_k (by omega)) (fun _ => qup_k (by omega)) (fun _ => qup_k (by omega)) (fun z => absurd z hk) (fun _ q => qup_k (by omega)))
theorem qLW.upBits {G : QG} {es : Nat} {A : Nat → Prop} {σ ad : QSt} {H H1 : Heap} (h : qLW G es A σ ad H) (f i v : Nat) {e0 e1 : va_E} (hv : qLV G es σ ad 11 f = some e0) (hs : qLV G es (qup σ (1000 + f) i v) ad 11 f = some e1) (he : va_at G.1 vwCl (ad 11 f, e1) H1) (oq : ∀ q, q ≠ ad 11 f → H1[q]? = H[q]?) : qLW G es A (qup σ (1000 + f) i v) ad H1 := by
  refine qPW.put h hv he oq hs (fun k j hne => ?_)
  by_cases hk : k < 14
  · refine qLV_row (fun q g1 g2 => qup_k (by omega)) (fun q => qup_k (by omega)) (fun _ => qup_k (by omega)) (fun _ => qup_k (by omega)) (fun _ q => qup_k (by omega)) (fun e q => ?_)
    refine qup_k (fun z => hne ⟨e, by omega⟩)
  · obtain ⟨n, rfl⟩ : ∃ n, k = n + 14 := ⟨k - 14, by omega⟩
    rfl
/-! a list of the store grows by an element and what comes with it -/
def qci (J : Nat) : Nat := match J with
  | 0 => 6
  | 1 => 7
  | 2 => 3
  | 3 => 5
  | _ => 8
def qcap (c n : Nat) : Nat := if c < n then n else if n = 0 then 10 else n + n / 2
theorem qLW.elem {G : QG} {es : Nat} {A : Nat → Prop} {σ ad : QSt} {H : Heap} (h : qLW G es A σ ad H) {J i : Nat} (hJ : J < 5) (hi : i < σ 0 J) : ∃ e, qLV G es σ ad (4 + 2 * J) i = some (.inr (qci J, e)) := by
  rcases (show J = 0 ∨ J = 1 ∨ J = 2 ∨ J = 3 ∨ J = 4 by omega) with rfl | rfl | rfl | rfl | rfl
  · exact ⟨_, qLV4 hi⟩
  · exact ⟨_, qLV6 hi⟩
  · exact ⟨_, qLV8 hi⟩
  · exact ⟨_, qLV10 hi⟩
  · exact ⟨_, qLV12 hi⟩
theorem qci_ok {J : Nat} (hJ : J < 5) : ∃ r : vw_C, vwCl[qci J]? = some r ∧ Cond.castable r.1 "java/lang/Object" ∈ qwords := by
  rcases (show J = 0 ∨ J = 1 ∨ J = 2 ∨ J = 3 ∨ J = 4 by omega) with rfl | rfl | rfl | rfl | rfl
  · exact ⟨_, rfl, by decide +kernel⟩
  · exact ⟨_, rfl, by decide +kernel⟩
  · exact ⟨_, rfl, by decide +kernel⟩
  · exact ⟨_, rfl, by decide +kernel⟩
  · exact ⟨_, rfl, by decide +kernel⟩
