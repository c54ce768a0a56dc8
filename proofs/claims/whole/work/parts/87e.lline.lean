section LN
variable {l : Launch} {G : QG} {es : Nat} {A B : Nat → Prop} {σ ρ ad bd : QSt} {o1 : Nat} {f1 : Nat → Int64}
theorem rLr_0 {ρ : QSt} {l0 j : Nat} (h : j ≠ 1) : rLr ρ l0 0 j = ρ 0 j := by
  unfold rLr
  rw [qup_j h, rLp_r (by omega) (by omega), qup_k (by decide)]
theorem lk_addLine (hst : l.stackTraces = false) (hv : zIv σ) (hR : zRel σ ρ) (hw : rWF ρ) (ho : ¬ A o1) (x1 x2 x3 x4 x5 x6 : Int32) : lOK (fun _ => True) l G es A B σ ρ ad bd o1 f1 yL_addLine wsL_addLine [.ref (ad 0 0), .int (x1), .int (x2), .int (x3), .int (x4), .int (x5), .int (x6), .ref (o1)] yX8_addLine wsX8_addLine [.ref (bd 0 0), .int (x1), .int (x2), .int (x3), .int (x4), .int (x5), .int (x6)] := by
  have hF := hv.1.wf
  have hR9 := l_rT hR
  have hrF := rT_wf hw
  have hn := hF.n
  by_cases hq9 : ¬ ((nI 0 ≤ x1 ∧ x1 ≤ nI 3) ∧ (nI 0 ≤ x2 ∧ x2 ≤ nI 4) ∧ (nI 0 ≤ x3 ∧ x3 ≤ nI 99) ∧ (nI 0 ≤ x4 ∧ x4 ≤ nI 99) ∧ (nI 0 ≤ x5 ∧ x5 ≤ nI 99) ∧ (nI 1 ≤ x6 ∧ x6 ≤ nI 99))
  · exact lOK.thr (K := 1) (by decide) hv hR hw (by decide) (kx_addLine1 l hst G es A σ ad hF x1 x2 x3 x4 x5 x6 hq9 o1 f1 ho) (x_raddLine1 l G B ρ bd hrF x1 x2 x3 x4 x5 x6 hq9)
  have hq := Classical.not_not.mp hq9
  obtain ⟨q1, q2, q3, q4, q5, q6⟩ := hq
  obtain ⟨s0, hs0, rfl⟩ := q_rng (by decide) q1
  obtain ⟨r0, hr0, rfl⟩ := q_rng (by decide) q2
  obtain ⟨y1, hy1, rfl⟩ := q_rng (by decide) q3
  obtain ⟨y2, hy2, rfl⟩ := q_rng (by decide) q4
  obtain ⟨y3, hy3, rfl⟩ := q_rng (by decide) q5
  obtain ⟨b0, hb0, rfl⟩ := q_rng1 (by decide) q6
  clear q1 q2 q3 q4 q5 q6
  by_cases hn9 : 200 ≤ σ 0 0
  · exact lOK.thr (K := 2) (by decide) hv hR hw (by decide) (kx_addLine2 l hst G es A σ ad hF s0 r0 y1 y2 y3 b0 hs0 hr0 hy1 hy2 hy3 hb0 (by omega) o1 f1 ho) (x_raddLine2 l G B ρ bd hrF s0 r0 y1 y2 y3 b0 hs0 hr0 hy1 hy2 hy3 hb0 (by rw [hR9.n (by decide)]; omega))
  have hn0 : σ 0 0 < 200 := Nat.lt_of_not_le hn9
  obtain ⟨hl1, hl2, hl3⟩ := l_num hv
  have hr00 : (rT ρ) 0 0 < 200 := by rw [hR9.n (by decide)]; exact hn0
  have h13 : (rT ρ) 0 3 + 6 ≤ 1300 := by rw [hR9.n (by decide)]; exact hl3
  have hc0 := (l_cap hv 0).1
  have hc1 := (l_cap hv 1).1
  have hwI := rLi_wf hrF hs0 hr0 hy1 hy2 hy3 hb0 hr00
  have eI : ∀ j, j ≠ 0 → rLi (rT ρ) s0 r0 y1 y2 y3 b0 0 j = (rT ρ) 0 j := fun j hj => rLi_o (by omega) (by omega)
  have eI2 : rLi (rT ρ) s0 r0 y1 y2 y3 b0 2 0 = 0 := (rLi_o (by omega) (by omega)).trans (rT_0 ρ)
  obtain ⟨r9, hr9⟩ := qFst_ex (fun q => σ 97 q = 0 ∧ s0 = σ 96 q ∧ qft (fun k => σ (112 + k) q) (fun k => if k = 0 then y1 else if k = 1 then y2 else y3)) (σ 0 1)
  cases r9 with
  | some p0 =>
    obtain ⟨hp, hm, hlow⟩ := id hr9
    obtain ⟨hT, hTn, hco, ⟨N, f, P, O, M, h0, hTu, hN, hR2⟩, hv2⟩ := zLineK hv hR9 hs0 hr0 hy1 hy2 hy3 hb0 hn0 hp hm
    have w0 : rWF (f 0) := by rw [h0]; exact hwI.up 68 _ p0 (by have := hn.2.1; omega) (by decide)
    have e02 : f 0 0 2 = (rT ρ) 0 2 := by rw [h0, qup_k (by decide)]; exact eI 2 (by decide)
    have e03 : f 0 0 3 = (rT ρ) 0 3 := by rw [h0, qup_k (by decide)]; exact eI 3 (by decide)
    have e20 : f 0 2 0 = 0 := by rw [h0, qup_k (by decide)]; exact eI2
    obtain ⟨wM, kM⟩ := rTurns_ok hTu w0 M (Nat.le_refl _)
    have n2 : f M 0 2 = (rT ρ) 0 2 := (kM 0 2 (by decide) (by decide) (by decide)).trans e02
    have n3 : f M 0 3 = (rT ρ) 0 3 := (kM 0 3 (by decide) (by decide) (by decide)).trans e03
    obtain ⟨wS, -, -⟩ := rLs_ok wM (by rw [n2, n3, hR9.n (by decide), hR9.n (by decide)]; exact hl2) ((rT ρ) 0 2) (by rw [n2]; exact Nat.le_refl _)
    obtain ⟨wD, kD⟩ := rDs_ok wS s0 N
    have h20 : rDs (rLs (f M) ((rT ρ) 0 2)) s0 N 2 0 = 0 := (kD 2 0 (by decide)).trans ((rLs_2 _ _ _).trans ((kM 2 0 (by decide) (by decide) (by decide)).trans e20))
    have t2 : qfLi σ s0 r0 y1 y2 y3 b0 p0 0 2 = σ 0 2 := qfLi_r (by omega) (by omega)
    have cp := (hTn.cap 3).1
    have cn := hTn.n
    refine lOK.gr ?_ (by decide) hv2 hR2 wD h20 (k_addLineK l G es A σ ad hF s0 r0 y1 y2 y3 b0 p0 hs0 hr0 hy1 hy2 hy3 hb0 hn0 (l_16 hv (by decide)) hr9 (qcap (σ 0 0) (σ 32 0)) (Or.inr (Nat.le_refl _)) hT hTn o1 f1 ho) (m_raddLineK l G B ρ bd hrF s0 r0 y1 y2 y3 b0 p0 M N hs0 hr0 hy1 hy2 hy3 hb0 hr00 h13 f P O (by rw [hR9.n (by decide)]; exact hp) ((zFit hR9 hp).mpr hm) (fun p hp2 z => hlow p hp2 ((zFit hR9 (Nat.lt_trans hp2 hp)).mp z)) h0 hTu hN) (by rw [hR9.n (by decide)]) trivial
    omega
  | none =>
    have hn1 : σ 0 1 < 200 := by have := hv.1.ip.1; omega
    obtain ⟨hT, hTn, hco, hX, hX0, hX32, hT32, ⟨N, f, P, O, M, h0, hTu, hN, hR2⟩, hv2⟩ := zLineL hv hR9 hs0 hr0 hy1 hy2 hy3 hb0 hn0
    have hw8 : ∀ k, k < 3 → rLi (rT ρ) s0 r0 y1 y2 y3 b0 (80 + k) ((rT ρ) 0 0) < 100 := by
      obtain ⟨v0, v64, v65, v66, v67, v69, v80, v81, v82⟩ := rLi_v (ρ := rT ρ) (s0 := s0) (r0 := r0) (x1 := y1) (x2 := y2) (x3 := y3) (b0 := b0)
      intro k hk
      rcases (show k = 0 ∨ k = 1 ∨ k = 2 by omega) with rfl | rfl | rfl
      · show rLi (rT ρ) s0 r0 y1 y2 y3 b0 80 ((rT ρ) 0 0) < 100; rw [v80]; exact hy1
      · show rLi (rT ρ) s0 r0 y1 y2 y3 b0 81 ((rT ρ) 0 0) < 100; rw [v81]; exact hy2
      · show rLi (rT ρ) s0 r0 y1 y2 y3 b0 82 ((rT ρ) 0 0) < 100; rw [v82]; exact hy3
    have e1 : rLi (rT ρ) s0 r0 y1 y2 y3 b0 0 1 < 200 := by rw [eI 1 (by decide), hR9.n (by decide)]; exact hn1
    have w0 : rWF (f 0) := by rw [h0]; exact (rLr_rwf hwI hw8 e1).up 68 _ _ (by omega) (by decide)
    have e02 : f 0 0 2 = (rT ρ) 0 2 := by rw [h0, qup_k (by decide), rLr_0 (by decide)]; exact eI 2 (by decide)
    have e03 : f 0 0 3 = (rT ρ) 0 3 := by rw [h0, qup_k (by decide), rLr_0 (by decide)]; exact eI 3 (by decide)
    have e20 : f 0 2 0 = 0 := by rw [h0, qup_k (by decide), rLr_r (by decide) (by decide) (by decide)]; exact eI2
    obtain ⟨wM, kM⟩ := rTurns_ok hTu w0 M (Nat.le_refl _)
    have n2 : f M 0 2 = (rT ρ) 0 2 := (kM 0 2 (by decide) (by decide) (by decide)).trans e02
    have n3 : f M 0 3 = (rT ρ) 0 3 := (kM 0 3 (by decide) (by decide) (by decide)).trans e03
    obtain ⟨wS, -, -⟩ := rLs_ok wM (by rw [n2, n3, hR9.n (by decide), hR9.n (by decide)]; exact hl2) ((rT ρ) 0 2) (by rw [n2]; exact Nat.le_refl _)
    obtain ⟨wD, kD⟩ := rDs_ok wS s0 N
    have h20 : rDs (rLs (f M) ((rT ρ) 0 2)) s0 N 2 0 = 0 := (kD 2 0 (by decide)).trans ((rLs_2 _ _ _).trans ((kM 2 0 (by decide) (by decide) (by decide)).trans e20))
    have t2 := hX 2 (by decide) (by decide)
    have t3 := hX 3 (by decide) (by decide)
    have cp := (hTn.cap 3).1
    have cn := hTn.n
    have hms : qcap ((qfLe σ s0 y1 y2 y3) 0 0) ((qfLe σ s0 y1 y2 y3) 32 0) ≤ 12 + 2 * σ 0 0 := by rw [hX0, hX32]; exact hc0
    refine lOK.gr ?_ (by decide) hv2 hR2 wD h20 (k_addLineL l G es A σ ad hF s0 r0 y1 y2 y3 b0 hs0 hr0 hy1 hy2 hy3 hb0 hn0 (l_16 hv (by decide)) hn1 (l_16 hv (by decide)) hr9 (qcap (σ 0 1) (σ 32 1)) (12 + 2 * σ 0 0) (Or.inr (Nat.le_refl _)) (Or.inr hms) hT hTn o1 f1 ho) (m_raddLineL l G B ρ bd hrF s0 r0 y1 y2 y3 b0 M N hs0 hr0 hy1 hy2 hy3 hb0 hr00 h13 f P O (fun p hp z => hr9 p (by rw [hR9.n (by decide)] at hp; exact hp) ((zFit hR9 (by rw [hR9.n (by decide)] at hp; exact hp)).mp z)) (by rw [hR9.n (by decide)]; exact hn1) h0 hTu hN) (by rw [hR9.n (by decide)]) trivial
    omega
end LN
