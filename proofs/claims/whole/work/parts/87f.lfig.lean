section LFG
variable {l : Launch} {G : QG} {es : Nat} {A B : Nat → Prop} {σ ρ ad bd : QSt} {o2 : Nat} {f2 : Nat → UInt64}
def lOK_droppedShare (l : Launch) (G : QG) (es : Nat) (A B : Nat → Prop) (σ ρ ad bd : QSt) (o2 : Nat) (f2 : Nat → UInt64) : Prop :=
  ∃ (K mc ms fr lo fr2 lo2 : Nat) (R2 : QSt) (x : UInt32), K ≤ 3 ∧ mc ≤ 24 ∧ ms ≤ 14000 ∧ (fr ≤ 12 ∧ lo ≤ 400 ∧ fr2 ≤ 12 ∧ lo2 ≤ 400) ∧ zRel σ R2 ∧ rWF R2 ∧ R2 2 0 = K ∧ (K = 0 → vf_n32 x) ∧
    Met l yL_droppedShare wsL_droppedShare ({ frames := fr, cells := mc, slots := ms, locals := lo } : Room) (qLg G es A σ ad o2 (lO2 G f2) [.ref (ad 0 0), .ref (o2)]) (qWV (some (.int (nI K))) (fun H => qLW G es A σ ad H ∧ ∃ f', va_at G.1 vwCl (o2, lO2 G f') H ∧ (K = 0 → f' 0 = FP.f2d x)) (lD1 A o2)) mc ms (lD1 A o2) ∧
    Met l yX8_droppedShare wsX8_droppedShare ({ frames := fr2, cells := 0, slots := 0, locals := lo2 } : Room) (rR G B ρ bd [.ref (bd 0 0)]) (qWV (some (.float x)) (rW G B R2 bd) B) 0 0 B
theorem lk_droppedShare (hst : l.stackTraces = false) (hv : zIv σ) (hR : zRel σ ρ) (hw : rWF ρ) (ho : ¬ A o2) : lOK_droppedShare l G es A B σ ρ ad bd o2 f2 := by
  have hF := hv.1.wf
  have hR9 := l_rT hR
  have hrF := rT_wf hw
  have hn := hF.n
  have e00 := hR9.n (j := 0) (by decide)
  by_cases h0 : σ 0 0 = 0
  · refine ⟨1, 1, 6, _, _, _, _, qup (rT ρ) 2 0 1, _, by decide, by decide, by decide, ?_, hR9.thr 1, hrF.up 2 0 1 (by decide) (by decide), qup_s _ _ _ _, fun z => absurd z (by decide), (kx_droppedShare1 l hst G es A σ ad hF h0 o2 f2 ho).weak (fun _ _ _ _ h => ⟨h.1, ⟨h.2.1.1, f2, h.2.1.2, fun z => absurd z (by decide)⟩, h.2.2⟩), x_rdroppedShare1 l G B ρ bd hrF (e00.trans h0)⟩
    decide
  · refine ⟨0, 0, 0, _, _, _, _, rT ρ, FP.fdiv (FP.i2f (nI (qsum (fun l => qB (σ 69 l = 100)) (σ 0 0)))) (FP.i2f (nI (σ 0 0))), by decide, by decide, by decide, ?_, hR9, hrF, rT_0 ρ, fun _ => rfl_fdiv _ (nI_ne0 (Nat.pos_of_ne_zero h0) (by omega)), (k_droppedShare l G es A σ ad hF (Nat.pos_of_ne_zero h0) o2 f2 ho).weak (fun _ _ _ _ h => ⟨h.1, ⟨h.2.1.1, h.2.1.2.elim (fun f' z => ⟨f', z.1, fun _ => z.2⟩)⟩, h.2.2⟩), (m_rdroppedShare l G B ρ bd hrF (by rw [e00]; exact Nat.pos_of_ne_zero h0)).weak (fun _ _ _ _ h => by rw [l_st hR9 100, hR9.n (by decide)] at h; exact h)⟩
    decide
def lOK_meanRank (l : Launch) (G : QG) (es : Nat) (A B : Nat → Prop) (σ ρ ad bd : QSt) (o2 : Nat) (f2 : Nat → UInt64) : Prop :=
  ∃ (K mc ms fr lo fr2 lo2 : Nat) (R2 : QSt) (x : UInt64), K ≤ 3 ∧ mc ≤ 24 ∧ ms ≤ 14000 ∧ (fr ≤ 12 ∧ lo ≤ 400 ∧ fr2 ≤ 12 ∧ lo2 ≤ 400) ∧ zRel σ R2 ∧ rWF R2 ∧ R2 2 0 = K ∧ (K = 0 → vf_n64 x) ∧
    Met l yL_meanRank wsL_meanRank ({ frames := fr, cells := mc, slots := ms, locals := lo } : Room) (qLg G es A σ ad o2 (lO2 G f2) [.ref (ad 0 0), .ref (o2)]) (qWV (some (.int (nI K))) (fun H => qLW G es A σ ad H ∧ ∃ f', va_at G.1 vwCl (o2, lO2 G f') H ∧ (K = 0 → f' 0 = x)) (lD1 A o2)) mc ms (lD1 A o2) ∧
    Met l yX8_meanRank wsX8_meanRank ({ frames := fr2, cells := 0, slots := 0, locals := lo2 } : Room) (rR G B ρ bd [.ref (bd 0 0)]) (qWV (some (.double x)) (rW G B R2 bd) B) 0 0 B
theorem lk_meanRank (hst : l.stackTraces = false) (hv : zIv σ) (hR : zRel σ ρ) (hw : rWF ρ) (ho : ¬ A o2) : lOK_meanRank l G es A B σ ρ ad bd o2 f2 := by
  have hF := hv.1.wf
  have hR9 := l_rT hR
  have hrF := rT_wf hw
  have hn := hF.n
  have hk9 : qsum (fun l => qB (σ 69 l = 107)) (σ 0 0) ≤ 200 := Nat.le_trans (qsum_bound (b := 1) _ (fun l _ => qB_le)) (by omega)
  have e00 := l_st hR9 107
  by_cases h0 : qsum (fun l => qB (σ 69 l = 107)) (σ 0 0) = 0
  · refine ⟨1, 1, 6, _, _, _, _, qup (rT ρ) 2 0 1, _, by decide, by decide, by decide, ?_, hR9.thr 1, hrF.up 2 0 1 (by decide) (by decide), qup_s _ _ _ _, fun z => absurd z (by decide), (kx_meanRank1 l hst G es A σ ad hF h0 o2 f2 ho).weak (fun _ _ _ _ h => ⟨h.1, ⟨h.2.1.1, f2, h.2.1.2, fun z => absurd z (by decide)⟩, h.2.2⟩), x_rmeanRank1 l G B ρ bd hrF (e00.trans h0)⟩
    decide
  · refine ⟨0, 0, 0, _, _, _, _, rT ρ, FP.ddiv (FP.i2d (nI (qsum (fun l => if σ 69 l = 107 then σ 65 l else 0) (σ 0 0)))) (FP.i2d (nI (qsum (fun l => qB (σ 69 l = 107)) (σ 0 0)))), by decide, by decide, by decide, ?_, hR9, hrF, rT_0 ρ, fun _ => rfl_ddiv _ (nI_ne0 (Nat.pos_of_ne_zero h0) (by omega)), (k_meanRank l G es A σ ad hF (Nat.pos_of_ne_zero h0) o2 f2 ho).weak (fun _ _ _ _ h => ⟨h.1, ⟨h.2.1.1, h.2.1.2.elim (fun f' z => ⟨f', z.1, fun _ => z.2⟩)⟩, h.2.2⟩), (m_rmeanRank l G B ρ bd hrF (by rw [e00]; exact Nat.pos_of_ne_zero h0)).weak (fun _ _ _ _ h => by rw [l_st hR9 107, l_rk hR9] at h; exact h)⟩
    decide
end LFG
