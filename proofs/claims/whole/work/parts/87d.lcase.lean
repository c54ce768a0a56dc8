section LK
variable {l : Launch} {G : QG} {es : Nat} {A B : Nat → Prop} {σ ρ ad bd : QSt} {o1 : Nat} {f1 : Nat → Int64}
theorem lk_stateOf (hst : l.stackTraces = false) (hv : zIv σ) (hR : zRel σ ρ) (hw : rWF ρ) (ho : ¬ A o1) (x1 : Int32) : lOK (fun _ => True) l G es A B σ ρ ad bd o1 f1 yL_stateOf wsL_stateOf [.ref (ad 0 0), .int (x1), .ref (o1)] yX8_stateOf wsX8_stateOf [.ref (bd 0 0), .int (x1)] := by
  have hF := hv.1.wf
  have hR9 := l_rT hR
  have hrF := rT_wf hw
  have hn := hF.n
  by_cases hin : rIn x1 (σ 0 0)
  · obtain ⟨i, hi, rfl⟩ := hin
    exact lOK.rd hv hR hw (by decide) (k_stateOf l G es A σ ad hF i hi o1 f1 ho) (m_rstateOf l G B ρ bd hrF i (by rw [hR9.n (by decide)]; exact hi) (by rw [hR9.l hi (r := 69) (by omega)]; exact hF.lst hi)) (by rw [hR9.l hi (r := 69) (by omega)]) rfl trivial
  · exact lOK.thr (K := 1) (by decide) hv hR hw (by decide) (kx_stateOf1 l hst G es A σ ad hF x1 hin o1 f1 ho) (x_rstateOf1 l G B ρ bd hrF x1 (fun z => hin (by rw [hR9.n (by decide)] at z; exact z)))
theorem lk_patternOf (hst : l.stackTraces = false) (hv : zIv σ) (hR : zRel σ ρ) (hw : rWF ρ) (ho : ¬ A o1) (x1 : Int32) : lOK (fun _ => True) l G es A B σ ρ ad bd o1 f1 yL_patternOf wsL_patternOf [.ref (ad 0 0), .int (x1), .ref (o1)] yX8_patternOf wsX8_patternOf [.ref (bd 0 0), .int (x1)] := by
  have hF := hv.1.wf
  have hR9 := l_rT hR
  have hrF := rT_wf hw
  have hn := hF.n
  by_cases hin : rIn x1 (σ 0 0)
  · obtain ⟨i, hi, rfl⟩ := hin
    exact lOK.rd hv hR hw (by decide) (k_patternOf l G es A σ ad hF i hi o1 f1 ho) (m_rpatternOf l G B ρ bd hrF i (by rw [hR9.n (by decide)]; exact hi)) (by rw [hR9.l hi (r := 68) (by omega)]) rfl trivial
  · exact lOK.thr (K := 1) (by decide) hv hR hw (by decide) (kx_patternOf1 l hst G es A σ ad hF x1 hin o1 f1 ho) (x_rpatternOf1 l G B ρ bd hrF x1 (fun z => hin (by rw [hR9.n (by decide)] at z; exact z)))
theorem lk_alertState (hst : l.stackTraces = false) (hv : zIv σ) (hR : zRel σ ρ) (hw : rWF ρ) (ho : ¬ A o1) (x1 : Int32) : lOK (fun _ => True) l G es A B σ ρ ad bd o1 f1 yL_alertState wsL_alertState [.ref (ad 0 0), .int (x1), .ref (o1)] yX8_alertState wsX8_alertState [.ref (bd 0 0), .int (x1)] := by
  have hF := hv.1.wf
  have hR9 := l_rT hR
  have hrF := rT_wf hw
  have hn := hF.n
  by_cases hin : rIn x1 (σ 0 2)
  · obtain ⟨i, hi, rfl⟩ := hin
    exact lOK.rd hv hR hw (by decide) (k_alertState l G es A σ ad hF i hi o1 f1 ho) (m_ralertState l G B ρ bd hrF i (by rw [hR9.n (by decide)]; exact hi) (by rw [hR9.a hi (r := 131) (by omega)]; exact hF.ast hi)) (by rw [hR9.a hi (r := 131) (by omega)]) rfl trivial
  · exact lOK.thr (K := 1) (by decide) hv hR hw (by decide) (kx_alertState1 l hst G es A σ ad hF x1 hin o1 f1 ho) (x_ralertState1 l G B ρ bd hrF x1 (fun z => hin (by rw [hR9.n (by decide)] at z; exact z)))
theorem lk_counted (hst : l.stackTraces = false) (hv : zIv σ) (hR : zRel σ ρ) (hw : rWF ρ) (ho : ¬ A o1) (x1 : Int32) : lOK (fun _ => True) l G es A B σ ρ ad bd o1 f1 yL_counted wsL_counted [.ref (ad 0 0), .int (x1), .ref (o1)] yX8_counted wsX8_counted [.ref (bd 0 0), .int (x1)] := by
  have hF := hv.1.wf
  have hR9 := l_rT hR
  have hrF := rT_wf hw
  have hn := hF.n
  by_cases hin : rIn x1 (σ 0 2)
  · obtain ⟨i, hi, rfl⟩ := hin
    exact lOK.rd hv hR hw (by decide) (k_counted l G es A σ ad hF i hi o1 f1 ho) (m_rcounted l G B ρ bd hrF i (by rw [hR9.n (by decide)]; exact hi)) (by rw [l_cnt hv hR9 hi]) rfl trivial
  · exact lOK.thr (K := 1) (by decide) hv hR hw (by decide) (kx_counted1 l hst G es A σ ad hF x1 hin o1 f1 ho) (x_rcounted1 l G B ρ bd hrF x1 (fun z => hin (by rw [hR9.n (by decide)] at z; exact z)))
theorem lk_countedAnew (hst : l.stackTraces = false) (hv : zIv σ) (hR : zRel σ ρ) (hw : rWF ρ) (ho : ¬ A o1) (x1 : Int32) : lOK (fun _ => True) l G es A B σ ρ ad bd o1 f1 yL_countedAnew wsL_countedAnew [.ref (ad 0 0), .int (x1), .ref (o1)] yX8_countedAnew wsX8_countedAnew [.ref (bd 0 0), .int (x1)] := by
  have hF := hv.1.wf
  have hR9 := l_rT hR
  have hrF := rT_wf hw
  have hn := hF.n
  by_cases hin : rIn x1 (σ 0 2)
  · obtain ⟨i, hi, rfl⟩ := hin
    exact lOK.rd hv hR hw (by decide) (k_countedAnew l G es A σ ad hF i hi o1 f1 ho) (m_rcountedAnew l G B ρ bd hrF i (by rw [hR9.n (by decide)]; exact hi)) (by rw [hR9.cnt hi (hF.plc hi)]) rfl trivial
  · exact lOK.thr (K := 1) (by decide) hv hR hw (by decide) (kx_countedAnew1 l hst G es A σ ad hF x1 hin o1 f1 ho) (x_rcountedAnew1 l G B ρ bd hrF x1 (fun z => hin (by rw [hR9.n (by decide)] at z; exact z)))
theorem lk_heldFor (hst : l.stackTraces = false) (hv : zIv σ) (hR : zRel σ ρ) (hw : rWF ρ) (ho : ¬ A o1) (x1 : Int32) : lOK (fun _ => True) l G es A B σ ρ ad bd o1 f1 yL_heldFor wsL_heldFor [.ref (ad 0 0), .int (x1), .ref (o1)] yX8_heldFor wsX8_heldFor [.ref (bd 0 0), .int (x1)] := by
  have hF := hv.1.wf
  have hR9 := l_rT hR
  have hrF := rT_wf hw
  have hn := hF.n
  by_cases hin : rIn x1 (σ 0 2)
  · obtain ⟨i, hi, rfl⟩ := hin
    exact lOK.rd hv hR hw (by decide) (k_heldFor l G es A σ ad hF i hi o1 f1 ho) (m_rheldFor l G B ρ bd hrF i (by rw [hR9.n (by decide)]; exact hi)) (by rw [l_hld hv hR9 hi]) rfl trivial
  · exact lOK.thr (K := 1) (by decide) hv hR hw (by decide) (kx_heldFor1 l hst G es A σ ad hF x1 hin o1 f1 ho) (x_rheldFor1 l G B ρ bd hrF x1 (fun z => hin (by rw [hR9.n (by decide)] at z; exact z)))
theorem lk_alertOf (hst : l.stackTraces = false) (hv : zIv σ) (hR : zRel σ ρ) (hw : rWF ρ) (ho : ¬ A o1) (x1 : Int32) : lOK (fun _ => True) l G es A B σ ρ ad bd o1 f1 yL_alertOf wsL_alertOf [.ref (ad 0 0), .int (x1), .ref (o1)] yX8_alertOf wsX8_alertOf [.ref (bd 0 0), .int (x1)] := by
  have hF := hv.1.wf
  have hR9 := l_rT hR
  have hrF := rT_wf hw
  have hn := hF.n
  by_cases hin : rIn x1 (σ 0 3)
  · obtain ⟨i, hi, rfl⟩ := hin
    exact lOK.rd hv hR hw (by decide) (k_alertOf l G es A σ ad hF i hi o1 f1 ho) (m_ralertOf l G B ρ bd hrF i (by rw [hR9.n (by decide)]; exact hi)) (by rw [hR9.f hi (r := 160) (by omega)]) rfl trivial
  · exact lOK.thr (K := 1) (by decide) hv hR hw (by decide) (kx_alertOf1 l hst G es A σ ad hF x1 hin o1 f1 ho) (x_ralertOf1 l G B ρ bd hrF x1 (fun z => hin (by rw [hR9.n (by decide)] at z; exact z)))
theorem lk_firedAt (hst : l.stackTraces = false) (hv : zIv σ) (hR : zRel σ ρ) (hw : rWF ρ) (ho : ¬ A o1) (x1 : Int32) : lOK (fun _ => True) l G es A B σ ρ ad bd o1 f1 yL_firedAt wsL_firedAt [.ref (ad 0 0), .int (x1), .ref (o1)] yX8_firedAt wsX8_firedAt [.ref (bd 0 0), .int (x1)] := by
  have hF := hv.1.wf
  have hR9 := l_rT hR
  have hrF := rT_wf hw
  have hn := hF.n
  by_cases hin : rIn x1 (σ 0 3)
  · obtain ⟨i, hi, rfl⟩ := hin
    exact lOK.rd hv hR hw (by decide) (k_firedAt l G es A σ ad hF i hi o1 f1 ho) (m_rfiredAt l G B ρ bd hrF i (by rw [hR9.n (by decide)]; exact hi)) (by rw [hR9.f hi (r := 161) (by omega)]) rfl trivial
  · exact lOK.thr (K := 1) (by decide) hv hR hw (by decide) (kx_firedAt1 l hst G es A σ ad hF x1 hin o1 f1 ho) (x_rfiredAt1 l G B ρ bd hrF x1 (fun z => hin (by rw [hR9.n (by decide)] at z; exact z)))
theorem lk_ground (hst : l.stackTraces = false) (hv : zIv σ) (hR : zRel σ ρ) (hw : rWF ρ) (ho : ¬ A o1) (x1 : Int32) : lOK (fun _ => True) l G es A B σ ρ ad bd o1 f1 yL_ground wsL_ground [.ref (ad 0 0), .int (x1), .ref (o1)] yX8_ground wsX8_ground [.ref (bd 0 0), .int (x1)] := by
  have hF := hv.1.wf
  have hR9 := l_rT hR
  have hrF := rT_wf hw
  have hn := hF.n
  by_cases hin : rIn x1 (σ 0 3)
  · obtain ⟨i, hi, rfl⟩ := hin
    exact lOK.rd hv hR hw (by decide) (k_ground l G es A σ ad hF i hi o1 f1 ho) (m_rground l G B ρ bd hrF i (by rw [hR9.n (by decide)]; exact hi)) (by rw [l_grd hv hR9 hi]) rfl trivial
  · exact lOK.thr (K := 1) (by decide) hv hR hw (by decide) (kx_ground1 l hst G es A σ ad hF x1 hin o1 f1 ho) (x_rground1 l G B ρ bd hrF x1 (fun z => hin (by rw [hR9.n (by decide)] at z; exact z)))
theorem lk_isGuarded (hst : l.stackTraces = false) (hv : zIv σ) (hR : zRel σ ρ) (hw : rWF ρ) (ho : ¬ A o1) (x1 : Int32) : lOK (fun v => ∃ w : Nat, w ≤ 1 ∧ v = nI w) l G es A B σ ρ ad bd o1 f1 yL_isGuarded wsL_isGuarded [.ref (ad 0 0), .int (x1), .ref (o1)] yX8_isGuarded wsX8_isGuarded [.ref (bd 0 0), .int (x1)] := by
  have hF := hv.1.wf
  have hR9 := l_rT hR
  have hrF := rT_wf hw
  have hn := hF.n
  by_cases hin : rIn x1 (σ 0 0)
  · obtain ⟨i, hi, rfl⟩ := hin
    exact lOK.rd hv hR hw (by decide) (k_isGuarded l G es A σ ad hF i hi o1 f1 ho) (m_risGuarded l G B ρ bd hrF i (by rw [hR9.n (by decide)]; exact hi)) (by rw [l_grN hv hR9 hi]) (nI_l q_31B).symm ⟨_, qB_le, rfl⟩
  · exact lOK.thr (K := 1) (by decide) hv hR hw (by decide) (kx_isGuarded1 l hst G es A σ ad hF x1 hin o1 f1 ho) (x_risGuarded1 l G B ρ bd hrF x1 (fun z => hin (by rw [hR9.n (by decide)] at z; exact z)))
theorem lk_standsOn (hst : l.stackTraces = false) (hv : zIv σ) (hR : zRel σ ρ) (hw : rWF ρ) (ho : ¬ A o1) (x1 x2 : Int32) : lOK (fun v => ∃ w : Nat, w ≤ 1 ∧ v = nI w) l G es A B σ ρ ad bd o1 f1 yL_standsOn wsL_standsOn [.ref (ad 0 0), .int (x1), .int (x2), .ref (o1)] yX8_standsOn wsX8_standsOn [.ref (bd 0 0), .int (x1), .int (x2)] := by
  have hF := hv.1.wf
  have hR9 := l_rT hR
  have hrF := rT_wf hw
  have hn := hF.n
  by_cases hin : rIn x1 (σ 0 3)
  · obtain ⟨f, hf, rfl⟩ := hin
    by_cases hi2 : rIn x2 (σ 0 0)
    · obtain ⟨i, hi, rfl⟩ := hi2
      exact lOK.rd hv hR hw (by decide) (k_standsOn l G es A σ ad hF f i hf hi o1 f1 ho) (m_rstandsOn l G B ρ bd hrF f i (by rw [hR9.n (by decide)]; exact hf) (by rw [hR9.n (by decide)]; exact hi)) (l_qB (hR9.m hf i).symm) (nI_l q_31B).symm ⟨_, qB_le, rfl⟩
    · exact lOK.thr (K := 1) (by decide) hv hR hw (by decide) (kx_standsOn1l l hst G es A σ ad hF f hf x2 hi2 o1 f1 ho) (x_rstandsOn1l l G B ρ bd hrF f (by rw [hR9.n (by decide)]; exact hf) x2 (fun z => hi2 (by rw [hR9.n (by decide)] at z; exact z)))
  · exact lOK.thr (K := 1) (by decide) hv hR hw (by decide) (kx_standsOn1 l hst G es A σ ad hF x1 hin x2 o1 f1 ho) (x_rstandsOn1 l G B ρ bd hrF x1 (fun z => hin (by rw [hR9.n (by decide)] at z; exact z)) x2)
theorem lk_patterns (hst : l.stackTraces = false) (hv : zIv σ) (hR : zRel σ ρ) (hw : rWF ρ) (ho : ¬ A o1) (x1 : Int32) : lOK (fun _ => True) l G es A B σ ρ ad bd o1 f1 yL_patterns wsL_patterns [.ref (ad 0 0), .int (x1), .ref (o1)] yX8_patterns wsX8_patterns [.ref (bd 0 0), .int (x1)] := by
  have hF := hv.1.wf
  have hR9 := l_rT hR
  have hrF := rT_wf hw
  have hn := hF.n
  by_cases hq : nI 0 ≤ x1 ∧ x1 ≤ nI 3
  · obtain ⟨s0, hs0, rfl⟩ := q_rng (by decide) hq
    exact lOK.rd hv hR hw (by decide) (k_patterns l G es A σ ad hF s0 hs0 o1 f1 ho) (m_rpatterns l G B ρ bd hrF s0 hs0) (by rw [l_pats hR9]) rfl trivial
  · exact lOK.thr (K := 1) (by decide) hv hR hw (by decide) (kx_patterns1 l hst G es A σ ad hF x1 hq o1 f1 ho) (x_rpatterns1 l G B ρ bd hrF x1 hq)
theorem lk_kept (hst : l.stackTraces = false) (hv : zIv σ) (hR : zRel σ ρ) (hw : rWF ρ) (ho : ¬ A o1) (x1 : Int32) : lOK (fun _ => True) l G es A B σ ρ ad bd o1 f1 yL_kept wsL_kept [.ref (ad 0 0), .int (x1), .ref (o1)] yX8_kept wsX8_kept [.ref (bd 0 0), .int (x1)] := by
  have hF := hv.1.wf
  have hR9 := l_rT hR
  have hrF := rT_wf hw
  have hn := hF.n
  by_cases hq : nI 0 ≤ x1 ∧ x1 ≤ nI 3
  · obtain ⟨s0, hs0, rfl⟩ := q_rng (by decide) hq
    exact lOK.rd hv hR hw (by decide) (k_kept l G es A σ ad hF s0 hs0 o1 f1 ho) (m_rkept l G B ρ bd hrF s0 hs0) (by rw [hR9.kept]) rfl trivial
  · exact lOK.thr (K := 1) (by decide) hv hR hw (by decide) (kx_kept1 l hst G es A σ ad hF x1 hq o1 f1 ho) (x_rkept1 l G B ρ bd hrF x1 hq)
theorem lk_dropped (hst : l.stackTraces = false) (hv : zIv σ) (hR : zRel σ ρ) (hw : rWF ρ) (ho : ¬ A o1) (x1 : Int32) : lOK (fun _ => True) l G es A B σ ρ ad bd o1 f1 yL_dropped wsL_dropped [.ref (ad 0 0), .int (x1), .ref (o1)] yX8_dropped wsX8_dropped [.ref (bd 0 0), .int (x1)] := by
  have hF := hv.1.wf
  have hR9 := l_rT hR
  have hrF := rT_wf hw
  have hn := hF.n
  by_cases hq : nI 0 ≤ x1 ∧ x1 ≤ nI 3
  · obtain ⟨s0, hs0, rfl⟩ := q_rng (by decide) hq
    exact lOK.rd hv hR hw (by decide) (k_dropped l G es A σ ad hF s0 hs0 o1 f1 ho) (m_rdropped l G B ρ bd hrF s0 hs0) (by rw [l_drp hR9]) rfl trivial
  · exact lOK.thr (K := 1) (by decide) hv hR hw (by decide) (kx_dropped1 l hst G es A σ ad hF x1 hq o1 f1 ho) (x_rdropped1 l G B ρ bd hrF x1 hq)
theorem lk_linesOf (hst : l.stackTraces = false) (hv : zIv σ) (hR : zRel σ ρ) (hw : rWF ρ) (ho : ¬ A o1) (x1 : Int32) : lOK (fun _ => True) l G es A B σ ρ ad bd o1 f1 yL_linesOf wsL_linesOf [.ref (ad 0 0), .int (x1), .ref (o1)] yX8_linesOf wsX8_linesOf [.ref (bd 0 0), .int (x1)] := by
  have hF := hv.1.wf
  have hR9 := l_rT hR
  have hrF := rT_wf hw
  have hn := hF.n
  by_cases hin : rIn x1 (σ 0 1)
  · obtain ⟨p0, hp, rfl⟩ := hin
    by_cases hm : σ 97 p0 = 0
    · exact lOK.rd hv hR hw (by decide) (k_linesOf l G es A σ ad hF p0 hp hm o1 f1 ho) (m_rlinesOf l G B ρ bd hrF p0 (by rw [hR9.n (by decide)]; exact hp) (by rw [hR9.p hp (r := 97) (by omega)]; exact hm)) (by rw [l_lof hR9]) rfl trivial
    · exact lOK.thr (K := 1) (by decide) hv hR hw (by decide) (kx_linesOf1m l hst G es A σ ad hF p0 hp hm o1 f1 ho) (x_rlinesOf1m l G B ρ bd hrF p0 (by rw [hR9.n (by decide)]; exact hp) (by rw [hR9.p hp (r := 97) (by omega)]; exact hm))
  · exact lOK.thr (K := 1) (by decide) hv hR hw (by decide) (kx_linesOf1 l hst G es A σ ad hF x1 hin o1 f1 ho) (x_rlinesOf1 l G B ρ bd hrF x1 (fun z => hin (by rw [hR9.n (by decide)] at z; exact z)))
theorem lk_wordAt (hst : l.stackTraces = false) (hv : zIv σ) (hR : zRel σ ρ) (hw : rWF ρ) (ho : ¬ A o1) (x1 x2 : Int32) : lOK (fun _ => True) l G es A B σ ρ ad bd o1 f1 yL_wordAt wsL_wordAt [.ref (ad 0 0), .int (x1), .int (x2), .ref (o1)] yX8_wordAt wsX8_wordAt [.ref (bd 0 0), .int (x1), .int (x2)] := by
  have hF := hv.1.wf
  have hR9 := l_rT hR
  have hrF := rT_wf hw
  have hn := hF.n
  by_cases hin : rIn x1 (σ 0 1)
  · obtain ⟨p0, hp, rfl⟩ := hin
    by_cases hm : σ 97 p0 = 0
    · by_cases hq : nI 0 ≤ x2 ∧ x2 ≤ nI 2
      · obtain ⟨k9, hk9, rfl⟩ := q_rng (by decide) hq
        exact lOK.rd hv hR hw (by decide) (k_wordAt l G es A σ ad hF p0 k9 hp hm hk9 o1 f1 ho) (m_rwordAt l G B ρ bd hrF p0 k9 (by rw [hR9.n (by decide)]; exact hp) (by rw [hR9.p hp (r := 97) (by omega)]; exact hm) hk9) (by rw [hR9.p hp (r := 112 + k9) (by omega)]) rfl trivial
      · exact lOK.thr (K := 2) (by decide) hv hR hw (by decide) (kx_wordAt2 l hst G es A σ ad hF p0 hp hm x2 hq o1 f1 ho) (x_rwordAt2 l G B ρ bd hrF p0 (by rw [hR9.n (by decide)]; exact hp) (by rw [hR9.p hp (r := 97) (by omega)]; exact hm) x2 hq)
    · exact lOK.thr (K := 1) (by decide) hv hR hw (by decide) (kx_wordAt1m l hst G es A σ ad hF p0 hp hm x2 o1 f1 ho) (x_rwordAt1m l G B ρ bd hrF p0 (by rw [hR9.n (by decide)]; exact hp) (by rw [hR9.p hp (r := 97) (by omega)]; exact hm) x2)
  · exact lOK.thr (K := 1) (by decide) hv hR hw (by decide) (kx_wordAt1 l hst G es A σ ad hF x1 hin x2 o1 f1 ho) (x_rwordAt1 l G B ρ bd hrF x1 (fun z => hin (by rw [hR9.n (by decide)] at z; exact z)) x2)
theorem lk_values (hst : l.stackTraces = false) (hv : zIv σ) (hR : zRel σ ρ) (hw : rWF ρ) (ho : ¬ A o1) (x1 x2 : Int32) : lOK (fun _ => True) l G es A B σ ρ ad bd o1 f1 yL_values wsL_values [.ref (ad 0 0), .int (x1), .int (x2), .ref (o1)] yX8_values wsX8_values [.ref (bd 0 0), .int (x1), .int (x2)] := by
  have hF := hv.1.wf
  have hR9 := l_rT hR
  have hrF := rT_wf hw
  have hn := hF.n
  by_cases hin : rIn x1 (σ 0 1)
  · obtain ⟨p0, hp, rfl⟩ := hin
    by_cases hm : σ 97 p0 = 0
    · by_cases hq : nI 0 ≤ x2 ∧ x2 ≤ nI 2
      · obtain ⟨k9, hk9, rfl⟩ := q_rng (by decide) hq
        exact lOK.rd hv hR hw (by decide) (k_values l G es A σ ad hF p0 k9 hp hm hk9 o1 f1 ho) (m_rvalues l G B ρ bd hrF p0 k9 (by rw [hR9.n (by decide)]; exact hp) (by rw [hR9.p hp (r := 97) (by omega)]; exact hm) hk9) (by rw [l_val hR9 p0 k9 hk9]) rfl trivial
      · exact lOK.thr (K := 2) (by decide) hv hR hw (by decide) (kx_values2 l hst G es A σ ad hF p0 hp hm x2 hq o1 f1 ho) (x_rvalues2 l G B ρ bd hrF p0 (by rw [hR9.n (by decide)]; exact hp) (by rw [hR9.p hp (r := 97) (by omega)]; exact hm) x2 hq)
    · exact lOK.thr (K := 1) (by decide) hv hR hw (by decide) (kx_values1m l hst G es A σ ad hF p0 hp hm x2 o1 f1 ho) (x_rvalues1m l G B ρ bd hrF p0 (by rw [hR9.n (by decide)]; exact hp) (by rw [hR9.p hp (r := 97) (by omega)]; exact hm) x2)
  · exact lOK.thr (K := 1) (by decide) hv hR hw (by decide) (kx_values1 l hst G es A σ ad hF x1 hin x2 o1 f1 ho) (x_rvalues1 l G B ρ bd hrF x1 (fun z => hin (by rw [hR9.n (by decide)] at z; exact z)) x2)
theorem lk_setBudget (hst : l.stackTraces = false) (hv : zIv σ) (hR : zRel σ ρ) (hw : rWF ρ) (ho : ¬ A o1) (x1 x2 : Int32) : lOK (fun _ => True) l G es A B σ ρ ad bd o1 f1 yL_setBudget wsL_setBudget [.ref (ad 0 0), .int (x1), .int (x2), .ref (o1)] yX8_setBudget wsX8_setBudget [.ref (bd 0 0), .int (x1), .int (x2)] := by
  have hF := hv.1.wf
  have hR9 := l_rT hR
  have hrF := rT_wf hw
  have hn := hF.n
  by_cases hq : nI 0 ≤ x1 ∧ x1 ≤ nI 3
  · obtain ⟨s0, hs0, rfl⟩ := q_rng (by decide) hq
    by_cases hq2 : nI 0 ≤ x2 ∧ x2 ≤ nI 9999
    · obtain ⟨b9, hb8, rfl⟩ := q_rng (by decide) hq2
      have hb9 : b9 ≤ 9999 := Nat.le_of_lt_succ hb8
      obtain ⟨hN, hR2, hv2⟩ := zBud hv hR9 hs0 hb9
      obtain ⟨hw2, hk2⟩ := rDs_ok (hrF.up 48 s0 b9 (by omega) (by decide)) s0 (qfLs (qup σ 48 s0 b9) s0 200).2
      exact lOK.wr (by decide) hv2 hR2 hw2 ((hk2 2 0 (by decide)).trans ((qup_k (by decide)).trans (rT_0 ρ))) (k_setBudget l G es A σ ad hF s0 b9 hs0 hb9 o1 f1 ho) (m_rsetBudget l G B ρ bd hrF s0 b9 _ hs0 hb9 hN) rfl trivial
    · exact lOK.thr (K := 1) (by decide) hv hR hw (by decide) (kx_setBudget1b l hst G es A σ ad hF s0 hs0 x2 hq2 o1 f1 ho) (x_rsetBudget1 l G B ρ bd hrF (nI s0) x2 (fun z => hq2 z.2))
  · exact lOK.thr (K := 1) (by decide) hv hR hw (by decide) (kx_setBudget1a l hst G es A σ ad hF x1 x2 hq o1 f1 ho) (x_rsetBudget1 l G B ρ bd hrF x1 x2 (fun z => hq z.1))
theorem lk_archive (hst : l.stackTraces = false) (hv : zIv σ) (hR : zRel σ ρ) (hw : rWF ρ) (ho : ¬ A o1) (x1 : Int32) : lOK (fun _ => True) l G es A B σ ρ ad bd o1 f1 yL_archive wsL_archive [.ref (ad 0 0), .int (x1), .ref (o1)] yX8_archive wsX8_archive [.ref (bd 0 0), .int (x1)] := by
  have hF := hv.1.wf
  have hR9 := l_rT hR
  have hrF := rT_wf hw
  have hn := hF.n
  by_cases hin : rIn x1 (σ 0 0)
  · obtain ⟨i, hi, rfl⟩ := hin
    by_cases h7 : σ 69 i = 107
    · obtain ⟨hv2, hR2⟩ := zArc hv hR9 hi h7
      exact lOK.wr (by decide) hv2 hR2 (hrF.up 69 i 97 (by decide) (by decide)) ((qup_k (by decide)).trans (rT_0 ρ)) (k_archive l G es A σ ad hF i hi h7 o1 f1 ho) (m_rarchive l G B ρ bd hrF i (by rw [hR9.n (by decide)]; exact hi) (by rw [hR9.l hi (r := 69) (by omega)]; exact h7)) (by rw [hR2.kept, show (qup (rT ρ) 69 i 97) 64 i = σ 64 i from (qup_k (by decide)).trans (hR9.l hi (r := 64) (by omega))]) trivial
    · exact lOK.thr (K := 2) (by decide) hv hR hw (by decide) (kx_archive2 l hst G es A σ ad hF i hi h7 o1 f1 ho) (x_rarchive2 l G B ρ bd hrF i (by rw [hR9.n (by decide)]; exact hi) (by rw [hR9.l hi (r := 69) (by omega)]; exact h7))
  · exact lOK.thr (K := 1) (by decide) hv hR hw (by decide) (kx_archive1 l hst G es A σ ad hF x1 hin o1 f1 ho) (x_rarchive1 l G B ρ bd hrF x1 (fun z => hin (by rw [hR9.n (by decide)] at z; exact z)))
theorem lk_request (hst : l.stackTraces = false) (hv : zIv σ) (hR : zRel σ ρ) (hw : rWF ρ) (ho : ¬ A o1) (x1 x2 : Int32) : lOK (fun _ => True) l G es A B σ ρ ad bd o1 f1 yL_request wsL_request [.ref (ad 0 0), .int (x1), .int (x2), .ref (o1)] yX8_request wsX8_request [.ref (bd 0 0), .int (x1), .int (x2)] := by
  have hF := hv.1.wf
  have hR9 := l_rT hR
  have hrF := rT_wf hw
  have hn := hF.n
  by_cases hq : (nI 0 ≤ x1 ∧ x1 ≤ nI 3) ∧ (nI 0 ≤ x2 ∧ x2 ≤ nI 4)
  · obtain ⟨s0, hs0, rfl⟩ := q_rng (by decide) hq.1
    obtain ⟨r0, hr0, rfl⟩ := q_rng (by decide) hq.2
    by_cases hn4 : σ 0 4 < 20
    · obtain ⟨hR2, hv2⟩ := zReq hv hR9 hs0 hr0 hn4
      have hcp := (l_cap hv 4).1
      have hb := hrF.1
      have hd : ((rT ρ) 1 0 + 2 + qsum (fun l => qB ((rT ρ) 64 l = s0 ∧ (rT ρ) 69 l = 97 ∧ 0 ≤ (rT ρ) 65 l)) ((rT ρ) 0 0) / 3) < 1073741824 := by
        have h1 : qsum (fun l => qB ((rT ρ) 64 l = s0 ∧ (rT ρ) 69 l = 97 ∧ 0 ≤ (rT ρ) 65 l)) ((rT ρ) 0 0) ≤ (rT ρ) 0 0 * 1 := qsum_bound _ (fun l _ => qB_le)
        have h2 := hrF.n
        have h3 := hv.1.io.2.2.2.2.2
        have h4 := hR9.t
        omega
      have hw2 : rWF (rRq (rT ρ) s0 r0) := rWF.of hv2 hR2 (qup_b (qup_b (qup_b (qup_b (qup_b hb (by omega) _ _) (by omega) _ _) hd _ _) (by decide) _ _) (by have := hrF.n; omega) _ _)
      exact lOK.gr (mc := 4) (ms := 12 + qcap (σ 0 4) (σ 32 4)) (by omega) (by decide) hv2 hR2 hw2 ((rRq_2 _ _ _).trans (rT_0 ρ)) (k_request l G es A σ ad hF s0 r0 hs0 hr0 hn4 (qcap (σ 0 4) (σ 32 4)) (Or.inr (Nat.le_refl _)) o1 f1 ho) (m_rrequest l G B ρ bd hrF s0 r0 hs0 hr0 (by rw [hR9.n (by decide)]; exact hn4)) (by rw [hR9.n (by decide)]) trivial
    · exact lOK.thr (K := 2) (by decide) hv hR hw (by decide) (kx_request2 l hst G es A σ ad hF s0 r0 hs0 hr0 (by omega) o1 f1 ho) (x_rrequest2 l G B ρ bd hrF s0 r0 hs0 hr0 (by rw [hR9.n (by decide)]; omega))
  · exact lOK.thr (K := 1) (by decide) hv hR hw (by decide) (kx_request1 l hst G es A σ ad hF x1 x2 hq o1 f1 ho) (x_rrequest1 l G B ρ bd hrF x1 x2 hq)
theorem lk_answer (hst : l.stackTraces = false) (hv : zIv σ) (hR : zRel σ ρ) (hw : rWF ρ) (ho : ¬ A o1) (x1 : Int32) : lOK (fun _ => True) l G es A B σ ρ ad bd o1 f1 yL_answer wsL_answer [.ref (ad 0 0), .int (x1), .ref (o1)] yX8_answer wsX8_answer [.ref (bd 0 0), .int (x1)] := by
  have hF := hv.1.wf
  have hR9 := l_rT hR
  have hrF := rT_wf hw
  have hn := hF.n
  by_cases hin : rIn x1 (σ 0 4)
  · obtain ⟨i, hi, rfl⟩ := hin
    have ha := l_ans hR9 hi
    by_cases h1 : σ 193 i = 0
    · rw [if_pos h1] at ha
      exact lOK.thr (K := 2) (by decide) hv hR hw (by decide) (kx_answer2 l hst G es A σ ad hF i hi h1 o1 f1 ho) (x_ranswer2 l G B ρ bd hrF i (by rw [hR9.n (by decide)]; exact hi) ha)
    · rw [if_neg h1] at ha
      exact lOK.rd hv hR hw (by decide) (k_answer l G es A σ ad hF i hi h1 o1 f1 ho) (m_ranswer l G B ρ bd hrF i (by rw [hR9.n (by decide)]; exact hi) (by rw [ha]; exact Nat.succ_ne_zero _)) (by rw [ha, Nat.add_sub_cancel]) rfl trivial
  · exact lOK.thr (K := 1) (by decide) hv hR hw (by decide) (kx_answer1 l hst G es A σ ad hF x1 hin o1 f1 ho) (x_ranswer1 l G B ρ bd hrF x1 (fun z => hin (by rw [hR9.n (by decide)] at z; exact z)))
theorem lk_addAlert (hst : l.stackTraces = false) (hv : zIv σ) (hR : zRel σ ρ) (hw : rWF ρ) (ho : ¬ A o1) (x1 x2 x3 x4 x5 x6 x7 : Int32) : lOK (fun _ => True) l G es A B σ ρ ad bd o1 f1 yL_addAlert wsL_addAlert [.ref (ad 0 0), .int (x1), .int (x2), .int (x3), .int (x4), .int (x5), .int (x6), .int (x7), .ref (o1)] yX8_addAlert wsX8_addAlert [.ref (bd 0 0), .int (x1), .int (x2), .int (x3), .int (x4), .int (x5), .int (x6), .int (x7)] := by
  have hF := hv.1.wf
  have hR9 := l_rT hR
  have hrF := rT_wf hw
  have hn := hF.n
  by_cases hq : (nI 0 ≤ x1 ∧ x1 ≤ nI 3) ∧ (nI 0 ≤ x2 ∧ x2 ≤ nI 4) ∧ (-1 ≤ x3 ∧ x3 ≤ nI 2) ∧ (nI 0 ≤ x4 ∧ x4 ≤ nI 99) ∧ (nI 1 ≤ x5 ∧ x5 ≤ nI 9) ∧ (nI 1 ≤ x6 ∧ x6 ≤ nI 50) ∧ (nI 0 ≤ x7 ∧ x7 ≤ nI 20)
  · obtain ⟨q1, q2, q3, q4, q5, q6, q7⟩ := hq
    obtain ⟨s0, hs0, rfl⟩ := q_rng (by decide) q1
    obtain ⟨r0, hr0, rfl⟩ := q_rng (by decide) q2
    obtain ⟨P, hP, rfl⟩ := q_rngP q3
    obtain ⟨w0, hw0, rfl⟩ := q_rng (by decide) q4
    obtain ⟨g0, hg0, rfl⟩ := q_rng1 (by decide) q5
    obtain ⟨n0, hn0, rfl⟩ := q_rng1 (by decide) q6
    obtain ⟨h0, hh1, rfl⟩ := q_rng (by decide) q7
    have hh0 : h0 ≤ 20 := Nat.le_of_lt_succ hh1
    clear q1 q2 q3 q4 q5 q6 q7
    by_cases hn2 : σ 0 2 < 6
    · obtain ⟨hl1, hl2, hl3⟩ := l_num hv
      have hc2 := (l_cap hv 2).1
      have hc3 := (l_cap hv 3).1
      obtain ⟨hv2, hR2⟩ := zAdd hv hR9 hs0 hr0 hP hw0 hg0 hn0 hh0 hn2 (by omega)
      have hw3 := rAl_wf hrF hs0 hr0 hP hw0 hg0 hn0 hh0 (by rw [hR9.n (by decide)]; exact hn2)
      have hw2 : rWF (rLk (rAl (rT ρ) s0 r0 P w0 g0 n0 h0) ((rT ρ) 0 2)) := rLk_rwf hw3 (by show (rT ρ) 0 2 < qup _ 0 2 ((rT ρ) 0 2 + 1) 0 2; rw [qup_s]; omega) (fun _ _ => by show qup _ 0 2 ((rT ρ) 0 2 + 1) 0 3 < 1300; rw [qup_j (by decide)]; show (rT ρ) 0 3 < 1300; rw [hR9.n (by decide)]; omega)
      exact lOK.gr (mc := 6) (ms := 22 + qcap (σ 0 2) (σ 32 2) + qcap (σ 0 3) (σ 32 3)) (by omega) (by decide) hv2 hR2 hw2 ((rLk_2 _ _ _).trans ((rAl_2 _ _ _ _ _ _ _ _).trans (rT_0 ρ))) (k_addAlert l G es A σ ad hF s0 r0 P w0 g0 n0 h0 hs0 hr0 hP hw0 hg0 hn0 hh0 hn2 (by omega) (l_16 hv (by decide)) (l_16 hv (by decide)) hv.1.io.1 (l_70 hv) (qcap (σ 0 2) (σ 32 2)) (qcap (σ 0 3) (σ 32 3)) (Or.inr (Nat.le_refl _)) (Or.inr (Nat.le_refl _)) o1 f1 ho) (m_raddAlert l G B ρ bd hrF s0 r0 P w0 g0 n0 h0 hs0 hr0 hP hw0 hg0 hn0 hh0 (by rw [hR9.n (by decide)]; exact hn2) (by rw [hR9.n (by decide)]; omega)) (by rw [hR9.n (by decide)]) trivial
    · exact lOK.thr (K := 2) (by decide) hv hR hw (by decide) (kx_addAlert2 l hst G es A σ ad hF s0 r0 P w0 g0 n0 h0 hs0 hr0 hP hw0 hg0 hn0 hh0 (by omega) o1 f1 ho) (x_raddAlert2 l G B ρ bd hrF s0 r0 P w0 g0 n0 h0 hs0 hr0 hP hw0 hg0 hn0 hh0 (by rw [hR9.n (by decide)]; omega))
  · exact lOK.thr (K := 1) (by decide) hv hR hw (by decide) (kx_addAlert1 l hst G es A σ ad hF x1 x2 x3 x4 x5 x6 x7 hq o1 f1 ho) (x_raddAlert1 l G B ρ bd hrF x1 x2 x3 x4 x5 x6 x7 hq)
theorem lk_release (hst : l.stackTraces = false) (hv : zIv σ) (hR : zRel σ ρ) (hw : rWF ρ) (ho : ¬ A o1) (x1 : Int32) : lOK (fun _ => True) l G es A B σ ρ ad bd o1 f1 yL_release wsL_release [.ref (ad 0 0), .int (x1), .ref (o1)] yX8_release wsX8_release [.ref (bd 0 0), .int (x1)] := by
  have hF := hv.1.wf
  have hR9 := l_rT hR
  have hrF := rT_wf hw
  have hn := hF.n
  by_cases hin : rIn x1 (σ 0 3)
  · obtain ⟨f, hf, rfl⟩ := hin
    have e162 := hR9.f hf (r := 162) (by omega)
    have hle := (hv.1.if f hf).2.2.1
    obtain ⟨ha1, ha2⟩ := l_135 hv hR9 hf
    by_cases h0 : σ 162 f = 0
    · by_cases hx3 : σ 131 (σ 160 f) ≠ 113 ∧ σ 134 (σ 160 f) = f + 1
      · exact lOK.thr (K := 3) (by decide) hv hR hw (by decide) (kx_release3 l hst G es A σ ad hF f hf h0 hx3.1 hx3.2 o1 f1 ho) (x_rrelease3 l G B ρ bd hrF f (by rw [hR9.n (by decide)]; exact hf) (e162.trans h0) (fun z => hx3.1 (ha1.mp z)) ((ha2 hx3.1).mpr hx3.2))
      · have h1 : σ 131 (σ 160 f) = 113 ∨ σ 134 (σ 160 f) ≠ f + 1 := by
          by_cases c : σ 131 (σ 160 f) = 113
          · exact Or.inl c
          · exact Or.inr (fun z => hx3 ⟨c, z⟩)
        have h1r : (rT ρ) 131 ((rT ρ) 160 f) = 113 ∨ (rT ρ) 135 ((rT ρ) 160 f) ≠ f := by
          by_cases c : σ 131 (σ 160 f) = 113
          · exact Or.inl (ha1.mpr c)
          · exact Or.inr (fun z => hx3 ⟨c, (ha2 c).mp z⟩)
        obtain ⟨hg1, hv8, hR8⟩ := zRls hv hR9 hf h0 h1
        obtain ⟨N, hN, hR2, hw9, hsum⟩ := zDropA hv8.1 hR8
        have hv2 : zIv (qfAs (qfGu (qup σ 162 f 1) f) 4).1 := hv8.drop (qfAs_ok hv8.1.wf 4).2.1 hw9
        obtain ⟨hw2, hk2⟩ := rDa_ok (hrF.up 162 f 1 (by decide) (by decide)) N 4
        exact lOK.wr (by decide) hv2 hR2 hw2 ((hk2 2 0 (by decide)).trans ((qup_k (by decide)).trans (rT_0 ρ))) (k_release l G es A σ ad hF f hf h0 h1 hg1 hv8.1.wf o1 f1 ho) (m_rrelease l G B ρ bd hrF f N (by rw [hR9.n (by decide)]; exact hf) (e162.trans h0) h1r hN) (by rw [hsum]) trivial
    · exact lOK.thr (K := 2) (by decide) hv hR hw (by decide) (kx_release2 l hst G es A σ ad hF f hf (by omega) o1 f1 ho) (x_rrelease2 l G B ρ bd hrF f (by rw [hR9.n (by decide)]; exact hf) (by rw [e162]; omega))
  · exact lOK.thr (K := 1) (by decide) hv hR hw (by decide) (kx_release1 l hst G es A σ ad hF x1 hin o1 f1 ho) (x_rrelease1 l G B ρ bd hrF x1 (fun z => hin (by rw [hR9.n (by decide)] at z; exact z)))
theorem lk_pass (hst : l.stackTraces = false) (hv : zIv σ) (hR : zRel σ ρ) (hw : rWF ρ) (ho : ¬ A o1) (x1 : Int32) : lOK (fun _ => True) l G es A B σ ρ ad bd o1 f1 yL_pass wsL_pass [.ref (ad 0 0), .int (x1), .ref (o1)] yX8_pass wsX8_pass [.ref (bd 0 0), .int (x1)] := by
  have hF := hv.1.wf
  have hR9 := l_rT hR
  have hrF := rT_wf hw
  have hn := hF.n
  by_cases hq : nI 1 ≤ x1 ∧ x1 ≤ nI 50
  · obtain ⟨n0, hn0, rfl⟩ := q_rng1 (by decide) hq
    by_cases h5 : σ 1 0 + n0 ≤ 5000
    · obtain ⟨hl1, hl2, hl3⟩ := l_num hv
      obtain ⟨N, hT, hrT, hsum, hR2, hv2, hnow, hj, h32⟩ := zPass hv hR9 (by omega) n0 h5
      have h5r : (rT ρ) 1 0 + n0 ≤ 5000 := by rw [hR9.t]; exact h5
      obtain ⟨hw2, -, hk2⟩ := rPs_2 hrF h5r hrT n0 (Nat.le_refl _)
      have e3 := hj 3
      exact lOK.gr (mc := 3 * ((qfPs σ n0).1 0 3 - σ 0 3)) (ms := 10 * ((qfPs σ n0).1 0 3 - σ 0 3) + 3 * ((qfPs σ n0).1 32 3 - σ 32 3)) (by rw [e3, h32]; omega) (by decide) hv2 hR2 hw2 (hk2.trans (rT_0 ρ)) (k_pass l G es A σ ad hF n0 hn0 h5 hT o1 f1 ho) (m_rpass l G B ρ bd hrF n0 N hn0 h5r hrT) (by rw [hsum]) trivial
    · exact lOK.thr (K := 2) (by decide) hv hR hw (by decide) (kx_pass2 l hst G es A σ ad hF n0 hn0 (by omega) o1 f1 ho) (x_rpass2 l G B ρ bd hrF n0 hn0 (by rw [hR9.t]; omega))
  · exact lOK.thr (K := 1) (by decide) hv hR hw (by decide) (kx_pass1 l hst G es A σ ad hF x1 hq o1 f1 ho) (x_rpass1 l G B ρ bd hrF x1 hq)
end LK
