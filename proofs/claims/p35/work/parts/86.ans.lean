/-! answers of both sides -/
section AN
variable {σ ρ : QSt}
theorem l_pats (h : zRel σ ρ) (s0 : Nat) : qsum (fun l => qB (ρ 96 l = s0 ∧ ρ 97 l = 0)) (ρ 0 1) = qsum (fun l => qB (σ 96 l = s0 ∧ σ 97 l = 0)) (σ 0 1) := by
  rw [h.n (by decide)]
  exact qsum_congr _ (fun l hl => by rw [h.p hl (r := 96) (by omega), h.p hl (r := 97) (by omega)])
theorem l_lof (h : zRel σ ρ) (p0 : Nat) : qsum (fun l => qB (ρ 68 l = p0)) (ρ 0 0) = qsum (fun l => qB (σ 68 l = p0)) (σ 0 0) := by
  rw [h.n (by decide)]
  exact qsum_congr _ (fun l hl => by rw [h.l hl (r := 68) (by omega)])
theorem l_val (h : zRel σ ρ) (p0 k9 : Nat) (hk : k9 < 3) : qsum (fun x => qB (0 < qsum (fun l => qB (ρ 68 l = p0 ∧ ρ (80 + k9) l = x)) (ρ 0 0))) 100 = qsum (qVF σ p0 k9 (σ 0 0)) 100 := by
  rw [h.n (by decide)]
  refine qsum_congr _ (fun x _ => ?_)
  have e : qsum (fun l => qB (ρ 68 l = p0 ∧ ρ (80 + k9) l = x)) (σ 0 0) = qsum (fun l => qB (σ 68 l = p0 ∧ σ (80 + k9) l = x)) (σ 0 0) := qsum_congr _ (fun l hl => by rw [h.l hl (r := 68) (by omega), h.l hl (r := 80 + k9) (by omega)])
  exact qB_c (by rw [e])
theorem l_drp (h : zRel σ ρ) (s0 : Nat) : qsum (fun l => qB (ρ 64 l = s0 ∧ ρ 69 l = 100 ∧ 0 ≤ ρ 65 l)) (ρ 0 0) = qsum (fun l => qB (σ 64 l = s0 ∧ σ 69 l = 100)) (σ 0 0) := by
  rw [h.n (by decide)]
  refine qsum_congr _ (fun l hl => qB_c ?_)
  rw [h.l hl (r := 64) (by omega), h.l hl (r := 69) (by omega)]
  exact ⟨fun z => ⟨z.1, z.2.1⟩, fun z => ⟨z.1, z.2, Nat.zero_le _⟩⟩
theorem l_st (h : zRel σ ρ) (c : Nat) : qsum (fun l => qB (ρ 69 l = c ∧ 0 ≤ ρ 65 l)) (ρ 0 0) = qsum (fun l => qB (σ 69 l = c)) (σ 0 0) := by
  rw [h.n (by decide)]
  refine qsum_congr _ (fun l hl => qB_c ?_)
  rw [h.l hl (r := 69) (by omega)]
  exact ⟨fun z => z.1, fun z => ⟨z, Nat.zero_le _⟩⟩
theorem l_rk (h : zRel σ ρ) : qsum (fun l => if ρ 69 l = 107 then ρ 65 l else 0) (ρ 0 0) = qsum (fun l => if σ 69 l = 107 then σ 65 l else 0) (σ 0 0) := by
  rw [h.n (by decide)]
  exact qsum_congr _ (fun l hl => by rw [h.l hl (r := 69) (by omega), h.l hl (r := 65) (by omega)])
theorem l_byt (h : zRel σ ρ) : qsum (fun l => ρ 66 l) (ρ 0 0) = qsum (fun l => σ 66 l) (σ 0 0) := by
  rw [h.n (by decide)]
  exact qsum_congr _ (fun l hl => h.l hl (r := 66) (by omega))
theorem l_grd (hv : zIv σ) (h : zRel σ ρ) {f : Nat} (hf : f < σ 0 3) : qsum (fun l => qB (ron ρ f l)) (ρ 0 0) = σ 163 f := by
  rw [h.n (by decide), (hv.1.if f hf).2.1]
  exact qsum_congr _ (fun l _ => qB_c (h.m hf l).symm)
theorem l_cnt (hv : zIv σ) (h : zRel σ ρ) {i : Nat} (hi : i < σ 0 2) : qcnt ρ i = σ 132 i := by
  rw [h.cnt hi (hv.1.wf.plc hi), hv.1.ig.2.1 i hi]
  rfl
theorem l_hld (hv : zIv σ) (h : zRel σ ρ) {i : Nat} (hi : i < σ 0 2) : (if ρ 131 i = 104 then ρ 133 i else 0) = σ 133 i := by
  rw [h.a hi (r := 131) (by omega), h.a hi (r := 133) (by omega)]
  by_cases c : σ 131 i = 104
  · rw [if_pos c]
  · rw [if_neg c]; exact ((hv.1.ia i hi).2.2.1 c).symm
theorem l_grN (hv : zIv σ) (h : zRel σ ρ) {l : Nat} (hl : l < σ 0 0) : rgdN ρ l = qB (0 < σ 70 l) := by
  have hF := hv.1.wf
  have hg := hv.1.ig.2.2.1 l hl
  by_cases c : 0 < σ 70 l
  · have hd : σ 69 l ≠ 100 := fun z => by have := hv.1.io.2.1 l hl z; omega
    rw [qB_t c]
    refine rgdN_t ⟨?_, by rw [h.l hl (r := 69) (by omega)]; exact hd⟩
    refine Classical.byContradiction fun z => ?_
    have h1 : qsum (fun a => zκ σ a l) (σ 0 2) = 0 := qsum_zero _ (fun a ha => (qB_f (fun y => z (Or.inl ⟨a, by rw [h.n (by decide)]; exact ha, (h.cn ha hl (hF.plc ha)).mpr y⟩)) : zκ σ a l = 0))
    have h2 : qsum (fun f => qB (σ (1000 + f) l = 1)) (σ 0 3) = 0 := qsum_zero _ (fun f hf => qB_f (fun y => z (Or.inr ⟨f, by rw [h.n (by decide)]; exact hf, (h.m hf l).mp y⟩)))
    rw [h1, h2] at hg
    omega
  · rw [qB_f c]
    refine rgdN_f ?_
    rintro ⟨⟨a, a1, a2⟩ | ⟨f, f1, f2⟩, -⟩
    · rw [h.n (by decide)] at a1
      have h1 := qsum_le1 (f := fun a => zκ σ a l) (l0 := a) (σ 0 2) a1
      have h2 : zκ σ a l = 1 := qB_t ((h.cn a1 hl (hF.plc a1)).mp a2)
      have h3 : zκ σ a l ≤ qsum (fun a => zκ σ a l) (σ 0 2) := h1
      omega
    · rw [h.n (by decide)] at f1
      have h1 := qsum_le1 (f := fun f => qB (σ (1000 + f) l = 1)) (l0 := f) (σ 0 3) f1
      have h2 : qB (σ (1000 + f) l = 1) = 1 := qB_t ((h.m f1 l).mpr f2)
      have h3 : qB (σ (1000 + f) l = 1) ≤ qsum (fun f => qB (σ (1000 + f) l = 1)) (σ 0 3) := h1
      omega
/-- what the store's own look at itself wants -/
theorem l_snd (hv : zIv σ) : (∀ a, a < σ 0 2 → σ 132 a = qcnt σ a) ∧ (∀ l0, l0 < σ 0 0 → σ 69 l0 = 100 → ∀ f, f < σ 0 3 → σ (1000 + f) l0 ≠ 1) ∧ (∀ l0, l0 < σ 0 0 → σ 97 (σ 68 l0) = 0 ∧ σ 64 l0 = σ 96 (σ 68 l0) ∧ qft (fun k => σ (112 + k) (σ 68 l0)) (fun k => σ (80 + k) l0)) := by
  refine ⟨fun a ha => hv.1.ig.2.1 a ha, fun l hl h100 f hf z => ?_, hv.1.ip.2.1⟩
  have h0 := hv.1.io.2.1 l hl h100
  have hg := hv.1.ig.2.2.1 l hl
  have h1 := qsum_le1 (f := fun f => qB (σ (1000 + f) l = 1)) (l0 := f) (σ 0 3) hf
  have h2 : qB (σ (1000 + f) l = 1) = 1 := qB_t z
  have h3 : qB (σ (1000 + f) l = 1) ≤ qsum (fun f => qB (σ (1000 + f) l = 1)) (σ 0 3) := h1
  omega
theorem l_num (hv : zIv σ) : σ 0 3 ≤ 1206 ∧ σ 0 3 + σ 0 2 ≤ 1300 ∧ σ 0 3 + 6 ≤ 1300 := by
  have h := hv.2.2.1
  have hn := hv.1.wf.n
  omega
theorem l_cap (hv : zIv σ) (J : Nat) : qcap (σ 0 J) (σ 32 J) ≤ 12 + 2 * σ 0 J ∧ σ 32 J ≤ 10 + 2 * σ 0 J ∧ σ 0 J ≤ σ 32 J := by
  have hc := hv.1.wf.cap J
  have h0 := hv.1.wf.c J
  have := (qcap_ok hc.1 hc.2.1 h0).2.1
  omega
theorem l_16 (hv : zIv σ) {J : Nat} (hJ : J < 5) : σ 16 J + 1 < 1073741824 := by
  rw [hv.1.io.2.2.2.2.1 J hJ]
  have := (hv.1.wf.cap J).2.2
  omega
theorem l_70 (hv : zIv σ) (l : Nat) : σ 70 l ≤ 999999 := by
  have hn := hv.1.wf.n
  by_cases hl : l < σ 0 0
  · rw [hv.1.ig.2.2.1 l hl]
    have h1 := qsum_bound (f := fun a => zκ σ a l) (b := 1) (σ 0 2) (fun a _ => hv.1.ig.1 a l)
    have h2 := qsum_bound (f := fun f => qB (σ (1000 + f) l = 1)) (b := 1) (σ 0 3) (fun f _ => qB_le)
    have e1 : qsum (fun a => zκ σ a l) (σ 0 2) ≤ σ 0 2 * 1 := h1
    have e2 : qsum (fun f => qB (σ (1000 + f) l = 1)) (σ 0 3) ≤ σ 0 3 * 1 := h2
    omega
  · rw [hv.1.ig.2.2.2 l (by omega)]; exact Nat.zero_le _
theorem rLk_2 (ρ : QSt) (a j : Nat) : rLk ρ a 2 j = ρ 2 j := by
  unfold rLk
  split
  · unfold rLkA; split
    · rw [qup_k (by decide), qup_k (by decide)]
    · rfl
  · rw [rLkS_r (by decide), rLkB_r (by decide) (by decide) (by decide) (by decide) (by decide) (by decide)]
theorem rLs_2 (ρ : QSt) (j : Nat) : ∀ i, rLs ρ i 2 j = ρ 2 j
  | 0 => rfl
  | i + 1 => (rLk_2 _ _ _).trans (rLs_2 ρ j i)
theorem rTk_2 (ρ : QSt) (j : Nat) : ∀ i, rTk ρ i 2 j = ρ 2 j
  | 0 => by show qup ρ 1 0 (ρ 1 0 + 1) 2 j = ρ 2 j; exact qup_k (by decide)
  | i + 1 => (rLk_2 _ _ _).trans ((rSh_r (by decide) (by decide)).trans (rTk_2 ρ j i))
theorem rPs_2 {ρ : QSt} (h : rWF ρ) {N : Nat → Nat → Nat} {n : Nat} (ht : ρ 1 0 + n ≤ 5000) (hT : ∀ i, i < n → rTick (rPs ρ N i) (N i)) : ∀ i, i ≤ n → rWF (rPs ρ N i) ∧ rPs ρ N i 1 0 = ρ 1 0 + i ∧ rPs ρ N i 2 0 = ρ 2 0
  | 0, _ => ⟨h, rfl, rfl⟩
  | i + 1, hi => by
    obtain ⟨g1, g2, g3⟩ := rPs_2 h ht hT i (by omega)
    have hk := hT i (by omega)
    obtain ⟨k1, k2⟩ := rP1_ok g1 (by omega) hk
    refine ⟨k1, ?_, ?_⟩
    · show rP1 (rPs ρ N i) (N i) 1 0 = _
      rw [k2, g2]; omega
    · show rP1 (rPs ρ N i) (N i) 2 0 = _
      obtain ⟨w1, -, -⟩ := rTk_ok g1 (by omega) hk.1 (rPs ρ N i 0 2) (Nat.le_refl _)
      unfold rP1
      rw [rAn_r (by decide), (rDa_ok w1 (N i) 4).2 2 0 (by decide), rTk_2, g3]
theorem rRq_2 (ρ : QSt) (s0 r0 : Nat) : rRq ρ s0 r0 2 0 = ρ 2 0 := by
  unfold rRq
  rw [qup_k (by decide), qup_k (by decide), qup_k (by decide), qup_k (by decide), qup_k (by decide)]
theorem rAl_2 (ρ : QSt) (s0 r0 P w0 g0 n0 h0 : Nat) : rAl ρ s0 r0 P w0 g0 n0 h0 2 0 = ρ 2 0 := by
  unfold rAl
  rw [qup_k (by decide), qup_k (by decide), qup_k (by decide), qup_k (by decide), qup_k (by decide), qup_k (by decide), qup_k (by decide), qup_k (by decide), qup_k (by decide)]
theorem l_ans (h : zRel σ ρ) {x : Nat} (hx : x < σ 0 4) : ρ 195 x = if σ 193 x = 0 then 0 else σ 194 x + 1 := h.2.2.2.1 x hx
theorem l_135 (hv : zIv σ) (h : zRel σ ρ) {f : Nat} (hf : f < σ 0 3) : (ρ 131 (ρ 160 f) = 113 ↔ σ 131 (σ 160 f) = 113) ∧ (σ 131 (σ 160 f) ≠ 113 → (ρ 135 (ρ 160 f) = f ↔ σ 134 (σ 160 f) = f + 1)) := by
  have ha := hv.1.wf.alt hf
  rw [h.f hf (r := 160) (by omega), h.a ha (r := 131) (by omega)]
  refine ⟨Iff.rfl, fun z => ?_⟩
  have h0 := (((hv.1.ia _ ha).2.2.2.2.2.2.2.2.2) z).1
  rw [h.2.1 _ ha h0]
  omega
theorem q_rngP {x : Int32} (h : -1 ≤ x ∧ x ≤ nI 2) : ∃ P, P ≤ 3 ∧ x = nI P - 1 := by
  have h0 : (-1 : Int) ≤ x.toInt := by have := Int32.le_iff_toInt_le.mp h.1; simpa using this
  have h2 : x.toInt ≤ (2 : Int) := by have := Int32.le_iff_toInt_le.mp h.2; rwa [nI_toInt (by decide)] at this
  have e : x.toInt = -1 ∨ x.toInt = 0 ∨ x.toInt = 1 ∨ x.toInt = 2 := by omega
  rcases e with e | e | e | e
  · exact ⟨0, by decide, Int32.toInt_inj.mp (by rw [e]; decide)⟩
  · exact ⟨1, by decide, Int32.toInt_inj.mp (by rw [e]; decide)⟩
  · exact ⟨2, by decide, Int32.toInt_inj.mp (by rw [e]; decide)⟩
  · exact ⟨3, by decide, Int32.toInt_inj.mp (by rw [e]; decide)⟩
theorem q_rng1 {x : Int32} {n : Nat} (hn : n < 1073741824) (h : nI 1 ≤ x ∧ x ≤ nI n) : ∃ i, (1 ≤ i ∧ i ≤ n) ∧ x = nI i := by
  have h1 : (1 : Int) ≤ x.toInt := by have := Int32.le_iff_toInt_le.mp h.1; rwa [nI_toInt (by decide)] at this
  have h2 : x.toInt ≤ (n : Int) := by have := Int32.le_iff_toInt_le.mp h.2; rwa [nI_toInt (by omega)] at this
  refine ⟨x.toInt.toNat, by omega, ?_⟩
  apply Int32.toInt_inj.mp
  rw [nI_toInt (by omega)]
  omega
end AN
