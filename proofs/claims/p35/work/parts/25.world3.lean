/-! a list of the store grows: the state behind it -/
theorem qup_self {f : QSt} {r i v : Nat} (h : f r i = v) : qup f r i v = f := by
  funext r2 i2
  unfold qup
  split
  · next z => rw [z.1, z.2, h]
  · rfl
theorem qLV_ad2 {G : QG} {es : Nat} {σ ad : QSt} {J q k j : Nat} (hk : 3 ≤ k) : qLV G es σ (qup ad 2 J q) k j = qLV G es σ ad k j := by
  match k with
  | 0 => omega
  | 1 => omega
  | 2 => omega
  | 3 => rfl
  | 4 => simp only [qLV]; rw [qup_k (by decide), qup_k (by decide)]
  | 5 => rfl
  | 6 => simp only [qLV]; rw [qup_k (by decide)]
  | 7 => rfl
  | 8 => simp only [qLV]; rw [qup_k (by decide), qup_k (by decide)]
  | 9 => rfl
  | 10 => simp only [qLV]; rw [qup_k (by decide), qup_k (by decide)]
  | 11 => rfl
  | 12 => simp only [qLV]; rw [qup_k (by decide)]
  | 13 => rfl
  | k + 14 => rfl
/-- addresses of places that are not there yet may be told before -/
theorem qLV_pend {G : QG} {es : Nat} {σ ad : QSt} (hF : qWF σ) {J v w : Nat} (hJ : J < 5) {k j : Nat} : qLV G es σ (qup (qup ad (4 + 2 * J) (σ 0 J) v) (5 + 2 * J) (σ 0 J) w) k j = qLV G es σ ad k j := by
  generalize hA : qup (qup ad (4 + 2 * J) (σ 0 J) v) (5 + 2 * J) (σ 0 J) w = ad'
  have hx : ∀ k2 j2, ¬ (k2 = 4 + 2 * J ∧ j2 = σ 0 J) → ¬ (k2 = 5 + 2 * J ∧ j2 = σ 0 J) → ad' k2 j2 = ad k2 j2 := by
    intro k2 j2 n1 n2
    rw [← hA]
    simp only [qup]
    rw [if_neg n2, if_neg n1]
  match k with
  | 0 => simp only [qLV]; rw [hx 1 0 (by omega) (by omega), hx 1 1 (by omega) (by omega), hx 1 2 (by omega) (by omega), hx 1 3 (by omega) (by omega), hx 1 4 (by omega) (by omega), hx 3 0 (by omega) (by omega)]
  | 1 => simp only [qLV]; rw [hx 2 j (by omega) (by omega)]
  | 2 => simp only [qLV]; rw [show (fun i => if i < σ 0 j then some (ad' (4 + 2 * j) i) else none) = (fun i => if i < σ 0 j then some (ad (4 + 2 * j) i) else none) from funext fun i => by
      by_cases h : i < σ 0 j
      · rw [if_pos h, if_pos h, hx _ _ (fun z => by have : j = J := by omega
                                                    subst this; omega) (by omega)]
      · rw [if_neg h, if_neg h]]
  | 3 => rfl
  | 4 =>
    simp only [qLV]
    by_cases h : j < σ 0 0
    · have h2 := hF.pat h
      rw [if_pos h, if_pos h, hx 5 j (by omega) (fun z => by have : J = 0 := by omega
                                                             subst this; omega), hx 6 (σ 68 j) (fun z => by have : J = 1 := by omega
                                                                                                            subst this; omega) (by omega)]
    · rw [if_neg h, if_neg h]
  | 5 => rfl
  | 6 =>
    simp only [qLV]
    by_cases h : j < σ 0 1
    · rw [if_pos h, if_pos h, hx 7 j (by omega) (fun z => by have : J = 1 := by omega
                                                             subst this; omega)]
    · rw [if_neg h, if_neg h]
  | 7 => rfl
  | 8 =>
    simp only [qLV]
    by_cases h : j < σ 0 2
    · have h2 := hF.fir h
      rw [if_pos h, if_pos h, hx 9 j (by omega) (fun z => by have : J = 2 := by omega
                                                             subst this; omega)]
      rw [show (if σ 134 j = 0 then Value.null else Value.ref (ad' 10 (σ 134 j - 1))) = (if σ 134 j = 0 then Value.null else Value.ref (ad 10 (σ 134 j - 1))) from by
        by_cases h3 : σ 134 j = 0
        · rw [if_pos h3, if_pos h3]
        · rw [if_neg h3, if_neg h3, hx 10 _ (fun z => by have : J = 3 := by omega
                                                         subst this; omega) (by omega)]]
    · rw [if_neg h, if_neg h]
  | 9 => rfl
  | 10 =>
    simp only [qLV]
    by_cases h : j < σ 0 3
    · have h2 := hF.alt h
      rw [if_pos h, if_pos h, hx 8 _ (fun z => by have : J = 2 := by omega
                                                  subst this; omega) (by omega), hx 11 j (by omega) (fun z => by have : J = 3 := by omega
                                                                                                                 subst this; omega)]
    · rw [if_neg h, if_neg h]
  | 11 => rfl
  | 12 =>
    simp only [qLV]
    by_cases h : j < σ 0 4
    · rw [if_pos h, if_pos h, hx 13 j (by omega) (fun z => by have : J = 4 := by omega
                                                              subst this; omega)]
    · rw [if_neg h, if_neg h]
  | 13 => rfl
  | k + 14 => rfl
theorem qLV_lt {G : QG} {es : Nat} {σ ad : QSt} {k j : Nat} {e : va_E} (h : qLV G es σ ad k j = some e) : k < 14 ∧ (4 ≤ k → j < σ 0 ((k - 4) / 2)) := by
  match k with
  | 0 => exact ⟨by omega, fun z => by omega⟩
  | 1 => exact ⟨by omega, fun z => by omega⟩
  | 2 => exact ⟨by omega, fun z => by omega⟩
  | 3 => exact ⟨by omega, fun z => by omega⟩
  | 4 => exact ⟨by omega, fun _ => by simp only [qLV] at h; split at h; assumption; cases h⟩
  | 5 => exact ⟨by omega, fun _ => by simp only [qLV] at h; split at h; assumption; cases h⟩
  | 6 => exact ⟨by omega, fun _ => by simp only [qLV] at h; split at h; assumption; cases h⟩
  | 7 => exact ⟨by omega, fun _ => by simp only [qLV] at h; split at h; assumption; cases h⟩
  | 8 => exact ⟨by omega, fun _ => by simp only [qLV] at h; split at h; assumption; cases h⟩
  | 9 => exact ⟨by omega, fun _ => by simp only [qLV] at h; split at h; assumption; cases h⟩
  | 10 => exact ⟨by omega, fun _ => by simp only [qLV] at h; split at h; assumption; cases h⟩
  | 11 => exact ⟨by omega, fun _ => by simp only [qLV] at h; split at h; assumption; cases h⟩
  | 12 => exact ⟨by omega, fun _ => by simp only [qLV] at h; split at h; assumption; cases h⟩
  | 13 => exact ⟨by omega, fun _ => by simp only [qLV] at h; split at h; assumption; cases h⟩
  | k + 14 => cases h
theorem qup_pend {G : QG} {es : Nat} {σ ad : QSt} {J v w k j : Nat} {e : va_E} (h : qLV G es σ ad k j = some e) : qup (qup ad (4 + 2 * J) (σ 0 J) v) (5 + 2 * J) (σ 0 J) w k j = ad k j := by
  have h2 := qLV_lt h
  simp only [qup]
  rw [if_neg (fun z => by have h3 := h2.2 (by omega); rw [show (k - 4) / 2 = J by omega] at h3; omega), if_neg (fun z => by have h3 := h2.2 (by omega); rw [show (k - 4) / 2 = J by omega] at h3; omega)]
theorem qLW.pend {G : QG} {es : Nat} {A : Nat → Prop} {σ ad : QSt} {H : Heap} (h : qLW G es A σ ad H) (hF : qWF σ) {J : Nat} (hJ : J < 5) (v w : Nat) : qLW G es A σ (qup (qup ad (4 + 2 * J) (σ 0 J) v) (5 + 2 * J) (σ 0 J) w) H := by
  refine ⟨fun k j e he => ?_, fun k j k2 j2 e e' g1 g2 g3 => ?_⟩
  · rw [qLV_pend hF hJ] at he; rw [qup_pend he]; exact h.1 _ _ _ he
  · rw [qLV_pend hF hJ] at g1 g2; rw [qup_pend g1, qup_pend g2] at g3; exact h.2 _ _ _ _ _ _ g1 g2 g3
theorem qlive_pend {G : QG} {es : Nat} {σ ad : QSt} (hF : qWF σ) {J v w x : Nat} (hJ : J < 5) (h : ¬ qlive (qLV G es σ ad) ad x) : ¬ qlive (qLV G es σ (qup (qup ad (4 + 2 * J) (σ 0 J) v) (5 + 2 * J) (σ 0 J) w)) (qup (qup ad (4 + 2 * J) (σ 0 J) v) (5 + 2 * J) (σ 0 J) w) x := by
  rintro ⟨k, j, e, he, hx⟩
  rw [qLV_pend hF hJ] at he
  rw [qup_pend he] at hx
  exact h ⟨k, j, e, he, hx⟩
set_option maxHeartbeats 1000000 in
theorem qLV_grow {G : QG} {es : Nat} {σ σ' ad : QSt} {J q : Nat} (hJ : J < 5) (s0 : σ' 0 J = σ 0 J + 1) (hr : ∀ r j, ¬ (64 + 32 * J ≤ r ∧ r < 96 + 32 * J ∧ j = σ 0 J) → ¬ ((r = 0 ∨ r = 16 ∨ r = 32) ∧ j = J) → ¬ (J = 3 ∧ r = 1000 + σ 0 J) → σ' r j = σ r j) {k j : Nat} (n1 : ¬ (k = 1 ∧ j = J)) (n2 : ¬ (k = 2 ∧ j = J)) (n3 : ¬ (k = 4 + 2 * J ∧ j = σ 0 J)) (n4 : ¬ (k = 5 + 2 * J ∧ j = σ 0 J)) : qLV G es σ' (qup ad 2 J q) k j = qLV G es σ ad k j := by
  have hc : ∀ J2, J2 < 5 → (k = 4 + 2 * J2 ∨ k = 5 + 2 * J2) → ((j < σ' 0 J2) = (j < σ 0 J2)) := by
    intro J2 h1 h2
    by_cases z : J2 = J
    · subst z; rw [s0]; exact propext ⟨fun _ => by omega, fun _ => by omega⟩
    · rw [hr 0 J2 (by omega) (by omega) (by omega)]
  by_cases hk : 3 ≤ k
  · rw [qLV_ad2 hk]
    match k, hk with
    | 3, _ => simp only [qLV]; rw [show (fun i => nI (σ' 48 i)) = (fun i => nI (σ 48 i)) from funext fun i => by rw [hr 48 i (by omega) (by omega) (by omega)]]
    | 4, _ => simp only [qLV]; simp only [hc 0 (by omega) (by omega)]; rw [hr 64 j (by omega) (by omega) (by omega), hr 65 j (by omega) (by omega) (by omega), hr 66 j (by omega) (by omega) (by omega), hr 67 j (by omega) (by omega) (by omega), hr 68 j (by omega) (by omega) (by omega), hr 69 j (by omega) (by omega) (by omega), hr 70 j (by omega) (by omega) (by omega)]
    | 5, _ => simp only [qLV]; simp only [hc 0 (by omega) (by omega)]; rw [hr 80 j (by omega) (by omega) (by omega), hr 81 j (by omega) (by omega) (by omega), hr 82 j (by omega) (by omega) (by omega)]
    | 6, _ => simp only [qLV]; simp only [hc 1 (by omega) (by omega)]; rw [hr 96 j (by omega) (by omega) (by omega), hr 97 j (by omega) (by omega) (by omega)]
    | 7, _ => simp only [qLV]; simp only [hc 1 (by omega) (by omega)]; rw [hr 112 j (by omega) (by omega) (by omega), hr 113 j (by omega) (by omega) (by omega), hr 114 j (by omega) (by omega) (by omega)]
    | 8, _ => simp only [qLV]; simp only [hc 2 (by omega) (by omega)]; rw [hr 128 j (by omega) (by omega) (by omega), hr 129 j (by omega) (by omega) (by omega), hr 130 j (by omega) (by omega) (by omega), hr 131 j (by omega) (by omega) (by omega), hr 132 j (by omega) (by omega) (by omega), hr 133 j (by omega) (by omega) (by omega), hr 134 j (by omega) (by omega) (by omega)]
    | 9, _ => simp only [qLV]; simp only [hc 2 (by omega) (by omega)]; rw [hr 144 j (by omega) (by omega) (by omega), hr 145 j (by omega) (by omega) (by omega), hr 146 j (by omega) (by omega) (by omega), hr 147 j (by omega) (by omega) (by omega)]
    | 10, _ => simp only [qLV]; simp only [hc 3 (by omega) (by omega)]; rw [hr 160 j (by omega) (by omega) (by omega), hr 161 j (by omega) (by omega) (by omega), hr 162 j (by omega) (by omega) (by omega), hr 163 j (by omega) (by omega) (by omega)]
    | 11, _ => simp only [qLV]; simp only [hc 3 (by omega) (by omega)]; rw [show σ' (1000 + j) = σ (1000 + j) from funext fun i => hr (1000 + j) i (by omega) (by omega) (by omega)]
    | 12, _ => simp only [qLV]; simp only [hc 4 (by omega) (by omega)]; rw [hr 192 j (by omega) (by omega) (by omega), hr 193 j (by omega) (by omega) (by omega), hr 194 j (by omega) (by omega) (by omega)]
    | 13, _ => simp only [qLV]; simp only [hc 4 (by omega) (by omega)]; rw [hr 208 j (by omega) (by omega) (by omega), hr 209 j (by omega) (by omega) (by omega)]
    | k + 14, _ => rfl
  · match k, hk with
    | 0, _ => simp only [qLV]; rw [qup_k (by decide), qup_k (by decide), qup_k (by decide), qup_k (by decide), qup_k (by decide), qup_k (by decide), hr 1 0 (by omega) (by omega) (by omega)]
    | 1, _ => simp only [qLV]; rw [hr 16 j (by omega) (by omega) (by omega), hr 32 j (by omega) (by omega) (by omega), hr 0 j (by omega) (by omega) (by omega), qup_j (by omega)]
    | 2, _ => simp only [qLV]; rw [hr 32 j (by omega) (by omega) (by omega), hr 0 j (by omega) (by omega) (by omega), show (fun i => if i < σ 0 j then some (qup ad 2 J q (4 + 2 * j) i) else none) = (fun i => if i < σ 0 j then some (ad (4 + 2 * j) i) else none) from funext fun i => by rw [qup_k (by omega)]]
    | k + 3, h => exact absurd (by omega) h
theorem qcap_pos (c n : Nat) : 0 < qcap c n := by
  unfold qcap
  split
  · omega
  · split <;> omega
theorem qLW.grow {G : QG} {es : Nat} {A : Nat → Prop} {σ σ' ad : QSt} {H0 H : Heap} {J v w : Nat} {ev ew : va_E} (h : qLW G es A σ ad H0) (hJ : J < 5) (hcb : σ 0 J ≤ σ 32 J) (hG : qAdP G σ ad J v H0 H) (hAA : ∀ q, H0.size ≤ q → A q)
    (hv0 : va_at G.1 vwCl (v, ev) H0) (hw0 : va_at G.1 vwCl (w, ew) H0) (hvl : ¬ qlive (qLV G es σ ad) ad v) (hwl : ¬ qlive (qLV G es σ ad) ad w) (hvw : v ≠ w) (hAv : A v) (hAw : A w)
    (a3 : ad (4 + 2 * J) (σ 0 J) = v) (a4 : ad (5 + 2 * J) (σ 0 J) = w) (s0 : σ' 0 J = σ 0 J + 1) (s16 : σ' 16 J = σ 16 J + 1) (s32 : σ' 32 J = qcap (σ 0 J) (σ 32 J))
    (hr : ∀ r j, ¬ (64 + 32 * J ≤ r ∧ r < 96 + 32 * J ∧ j = σ 0 J) → ¬ ((r = 0 ∨ r = 16 ∨ r = 32) ∧ j = J) → ¬ (J = 3 ∧ r = 1000 + σ 0 J) → σ' r j = σ r j)
    (e3 : qLV G es σ' ad (4 + 2 * J) (σ 0 J) = some ev) (e4 : qLV G es σ' ad (5 + 2 * J) (σ 0 J) = some ew) : ∃ q, qLW G es A σ' (qup ad 2 J q) H ∧ ∀ x, x < H0.size → ¬ qlive (qLV G es σ ad) ad x → x ≠ v → x ≠ w → ¬ qlive (qLV G es σ' (qup ad 2 J q)) (qup ad 2 J q) x := by
  obtain ⟨q, hq, hl, ha, hz, hk⟩ := hG
  have nl : ∀ x, ¬ qlive (qLV G es σ ad) ad x → x < H0.size → H[x]? = H0[x]? := fun x hx hlt => hk x hlt (fun z => hx ⟨1, J, _, qLV1 hJ, z.symm⟩) (fun z => hx ⟨2, J, _, qLV2 hJ z.1, z.2.symm⟩)
  have nq : ∀ x, ¬ qlive (qLV G es σ ad) ad x → x < H0.size → x ≠ q := fun x hx hlt z => by
    rcases hq with ⟨h0, h1⟩ | h1
    · exact hx ⟨2, J, _, qLV2 hJ h0, (z.trans h1).symm⟩
    · omega
  refine ⟨q, qLW.add h hl ha (hv0.kept (nl v hvl hv0.lt)) (hw0.kept (nl w hwl hw0.lt)) ?_ hvl hwl hvw (nq v hvl hv0.lt) (nq w hwl hw0.lt) ?_ hAv hAw ?_ (h.in (qLV1 hJ)) (qLV1 hJ) ?_ ?_ ?_ ((qLV_ad2 (by omega)).trans e3) ((qLV_ad2 (by omega)).trans e4) (fun k j g1 g2 g3 g4 => qLV_grow hJ s0 hr g1 g2 g3 g4), ?_⟩
  · intro k j e he g1 g2
    refine hk _ (h.to he).lt (fun z => g1 (h.2 _ _ _ _ _ _ he (qLV1 hJ) z)) (fun z => g2 (h.2 _ _ _ _ _ _ he (qLV2 hJ z.1) z.2))
  · intro k j e he hx
    rcases hq with ⟨h0, h1⟩ | h1
    · exact h.2 _ _ _ _ _ _ he (qLV2 hJ h0) (hx.trans h1)
    · exact absurd ((h.to he).lt) (by omega)
  · rcases hq with ⟨h0, h1⟩ | h1
    · rw [h1]; exact h.in (qLV2 hJ h0)
    · exact hAA q h1
  · rw [qup_self a3, qup_self a4]
  · rw [qLV1 hJ, s0, s16, s32, if_neg (Nat.ne_of_gt (qcap_pos _ _)), qup_s]
  · rw [qLV2 hJ (by rw [s32]; exact qcap_pos _ _), s32, show (fun i => if i < σ' 0 J then some (qup ad 2 J q (4 + 2 * J) i) else none) = (fun i => if i < σ 0 J then some (ad (4 + 2 * J) i) else if i = σ 0 J then some v else none) from funext fun i => by
      rw [qup_k (by omega), s0]
      by_cases c : i < σ 0 J
      · rw [if_pos c, if_pos (by omega)]
      · rw [if_neg c]
        by_cases c2 : i = σ 0 J
        · rw [if_pos c2, if_pos (by omega), c2, a3]
        · rw [if_neg c2, if_neg (by omega)]]
  · rintro x hx hxl nv nw ⟨k, j, e, he, hxe⟩
    by_cases n2 : k = 2 ∧ j = J
    · rw [n2.1, n2.2, qup_s] at hxe
      exact nq x hxl hx hxe.symm
    rw [show qup ad 2 J q k j = ad k j from if_neg n2] at hxe
    by_cases n1 : k = 1 ∧ j = J
    · exact hxl ⟨1, J, _, qLV1 hJ, by rw [← n1.1, ← n1.2]; exact hxe⟩
    by_cases n3 : k = 4 + 2 * J ∧ j = σ 0 J
    · rw [n3.1, n3.2, a3] at hxe; exact nv hxe.symm
    by_cases n4 : k = 5 + 2 * J ∧ j = σ 0 J
    · rw [n4.1, n4.2, a4] at hxe; exact nw hxe.symm
    rw [qLV_grow hJ s0 hr n1 n2 n3 n4] at he
    exact hxl ⟨k, j, e, he, hxe⟩
/-- the state behind the growing of a list -/
def qgr (σ : QSt) (J : Nat) : QSt := qup (qup (qup σ 0 J (σ 0 J + 1)) 16 J (σ 16 J + 1)) 32 J (qcap (σ 0 J) (σ 32 J))
theorem qgr_k {σ : QSt} {J r j : Nat} (h : ¬ ((r = 0 ∨ r = 16 ∨ r = 32) ∧ j = J)) : qgr σ J r j = σ r j := by
  unfold qgr qup
  rw [if_neg (by omega), if_neg (by omega), if_neg (by omega)]
theorem qgr_0 {σ : QSt} {J : Nat} : qgr σ J 0 J = σ 0 J + 1 := by unfold qgr; rw [qup_k (by decide), qup_k (by decide), qup_s]
theorem qgr_16 {σ : QSt} {J : Nat} : qgr σ J 16 J = σ 16 J + 1 := by unfold qgr; rw [qup_k (by decide), qup_s]
theorem qgr_32 {σ : QSt} {J : Nat} : qgr σ J 32 J = qcap (σ 0 J) (σ 32 J) := by unfold qgr; rw [qup_s]
/-- rows put at a place -/
def qups (σ : QSt) (c : Nat) : List (Nat × Nat) → QSt
  | [] => σ
  | x :: r => qup (qups σ c r) x.1 c x.2
theorem qups_k {σ : QSt} {c : Nat} {L : List (Nat × Nat)} {r j : Nat} (h : j = c → ∀ x ∈ L, r ≠ x.1) : qups σ c L r j = σ r j := by
  induction L with
  | nil => rfl
  | cons x L ih =>
    show (if r = x.1 ∧ j = c then x.2 else qups σ c L r j) = _
    rw [if_neg (fun z => h z.2 x (List.mem_cons_self) z.1)]
    exact ih (fun z y hy => h z y (List.mem_cons_of_mem _ hy))
