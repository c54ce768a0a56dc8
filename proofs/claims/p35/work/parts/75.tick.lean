/-! a tick, in both -/
def zκt (σ : QSt) (i : Nat) : Nat → Nat → Nat := fun a l => if a < i then qB (qcn (qfNow σ) a l) else qB (qcn σ a l)
theorem zκt_le (σ : QSt) (i a l : Nat) : zκt σ i a l ≤ 1 := by
  unfold zκt; split <;> exact qB_le
theorem zNow_r {σ : QSt} {r j : Nat} (h : r ≠ 1) : qfNow σ r j = σ r j := qup_k h
theorem zNow {σ ρ : QSt} (h : zIw σ (zκ σ)) (hR : zRel σ ρ) (ht : σ 1 0 < 5000) : zIw (qfNow σ) (zκ σ) ∧ zRel (qfNow σ) (qfNow ρ) := by
  obtain ⟨hF, ia, ig, iff_, ip, io⟩ := id h
  have e : ∀ r j, r ≠ 1 → qfNow σ r j = σ r j := fun r j hr => qup_k hr
  refine ⟨⟨qfNow_wf hF (by omega), ia.of (fun r j hr => e r j (by omega)) (fun j _ => ⟨e _ _ (by decide), e _ _ (by decide)⟩) hF, ig.of (fun r j hr => e r j (by omega)), iff_.of (fun r j hr => e r j (by omega)), ip.of (fun r j hr => e r j (by omega)), ?_⟩, ?_⟩
  · obtain ⟨o1, o2, o3, o4, o5, o6⟩ := io
    refine ⟨fun i j h1 h2 => ?_, fun l hl hd => ?_, fun l hl => ?_, fun x hx => ?_, fun j hj => ?_, ?_⟩
    · rw [e 67 i (by decide), e 67 j (by decide)]; exact o1 i j h1 h2
    · rw [e 70 l (by decide)]; exact o2 l hl hd
    · rw [e 65 l (by decide)]; exact o3 l hl
    · rw [e 193 x (by decide)]; exact o4 x hx
    · rw [e 16 j (by decide), e 0 j (by decide)]; exact o5 j hj
    · show qup σ 1 0 (σ 1 0 + 1) 1 0 ≤ 5000; rw [qup_s]; omega
  · have := hR.up (r := 1) (i := 0) (σ 1 0 + 1) (by decide) (fun z => absurd z (by decide)) (fun z => absurd z (by decide))
    unfold qfNow
    rw [hR.t]
    exact this
theorem zTk_r {σ : QSt} {r j : Nat} (h : r < 1000) (h1 : r ≠ 70) (h2 : r ≠ 163) (h3 : r ≠ 131) (h4 : r ≠ 133) (h5 : r ≠ 0) (h6 : r ≠ 16) (h7 : r ≠ 32) (h8 : r ≠ 134) (h9 : r < 160 ∨ 192 ≤ r) (h10 : r ≠ 132) : ∀ i, qfTk σ i r j = qfNow σ r j
  | 0 => rfl
  | i + 1 => by
    show qLook (qfTa (qfTk σ i) i) i r j = _
    rw [zLook_r h h1 h2 h3 h4 h5 h6 h7 h8 h9]
    unfold qfTa qfFl
    rw [qfSh_r h3 h4, qfFlS_r _ _ _ _ h1 h10]
    exact zTk_r h h1 h2 h3 h4 h5 h6 h7 h8 h9 h10 i
/-- one that counts a line still counts it, or the line leaves -/
theorem zLv {σ X : QSt} {a l : Nat} (hw : 1 ≤ σ 129 a) (hc : σ 67 l ≤ σ 1 0) (hP : σ 146 a ≤ 3) (h1 : X 1 0 = σ 1 0 + 1) (hl : ∀ r, zl r → X r l = σ r l) (ha : ∀ r, r = 129 ∨ (144 ≤ r ∧ r ≤ 147) → X r a = σ r a) : qB (qcn σ a l) = qB (qcn (qfNow σ) a l) + qB (qlv X a l) := by
  have en : qfNow σ 1 0 = σ 1 0 + 1 := qup_s _ _ _ _
  have e1 : qcn (qfNow σ) a l ↔ (σ 69 l ≠ 100 ∧ σ 1 0 + 1 - σ 67 l < σ 129 a ∧ qtk σ (σ 144 a) (σ 145 a) (σ 146 a) (σ 147 a) l) := by
    unfold qcn qcw qtk
    rw [en, zNow_r (σ := σ) (r := 69) (j := l) (by decide), zNow_r (σ := σ) (r := 67) (j := l) (by decide), zNow_r (σ := σ) (r := 129) (j := a) (by decide), zNow_r (σ := σ) (r := 64) (j := l) (by decide), zNow_r (σ := σ) (r := 144) (j := a) (by decide), zNow_r (σ := σ) (r := 145) (j := a) (by decide), zNow_r (σ := σ) (r := 65) (j := l) (by decide), zNow_r (σ := σ) (r := 146) (j := a) (by decide), zNow_r (σ := σ) (r := 147) (j := a) (by decide), zNow_r (σ := σ) (r := 80 + (σ 146 a - 1)) (j := l) (by omega)]
  have e2 : qlv X a l ↔ (σ 67 l + σ 129 a = σ 1 0 + 1 ∧ σ 69 l ≠ 100 ∧ qtk σ (σ 144 a) (σ 145 a) (σ 146 a) (σ 147 a) l) := by
    unfold qlv qtk
    rw [h1, hl 67 (by omega), ha 129 (by omega), hl 69 (by omega), hl 64 (by omega), ha 144 (by omega), ha 145 (by omega), hl 65 (by omega), ha 146 (by omega), ha 147 (by omega), hl (80 + (σ 146 a - 1)) (by omega)]
  have e3 : qcn σ a l ↔ (σ 69 l ≠ 100 ∧ σ 1 0 - σ 67 l < σ 129 a ∧ qtk σ (σ 144 a) (σ 145 a) (σ 146 a) (σ 147 a) l) := Iff.rfl
  by_cases c : σ 69 l ≠ 100 ∧ qtk σ (σ 144 a) (σ 145 a) (σ 146 a) (σ 147 a) l
  · by_cases d : σ 1 0 + 1 - σ 67 l < σ 129 a
    · rw [qB_t (e3.mpr ⟨c.1, by omega, c.2⟩), qB_t (e1.mpr ⟨c.1, d, c.2⟩), qB_f (fun z => by have := (e2.mp z).1; omega)]
    · by_cases f : σ 67 l + σ 129 a = σ 1 0 + 1
      · rw [qB_t (e3.mpr ⟨c.1, by omega, c.2⟩), qB_f (fun z => d (e1.mp z).2.1), qB_t (e2.mpr ⟨f, c.1, c.2⟩)]
      · rw [qB_f (fun z => by have := (e3.mp z).2.1; omega), qB_f (fun z => d (e1.mp z).2.1), qB_f (fun z => f (e2.mp z).1)]
  · rw [qB_f (fun z => c ⟨(e3.mp z).1, (e3.mp z).2.2⟩), qB_f (fun z => c ⟨(e1.mp z).1, (e1.mp z).2.2⟩), qB_f (fun z => c (e2.mp z).2)]
theorem zTurns {σ ρ : QSt} (h : zIw σ (zκ σ)) (hR : zRel σ ρ) (ht : σ 1 0 < 5000) (hk : ∀ a, a < σ 0 2 → zLk σ a) (hn : σ 0 3 < 1300) : ∀ i, i ≤ σ 0 2 → zIw (qfTk σ i) (zκt σ i) ∧ zRel (qfTk σ i) (rTk ρ i) ∧ (∀ a, a < σ 0 2 → zLk (qfTk σ i) a) ∧ (∀ j, qfTk σ i 0 j = σ 0 j) ∧ qfTk σ i 32 3 = σ 32 3 ∧ ∀ k, k < i → qTo (qfTk σ k) k
  | 0, _ => by
    obtain ⟨g1, g2⟩ := zNow h hR ht
    refine ⟨g1.cong (zκt_le σ 0) (fun a l _ _ => if_neg (Nat.not_lt_zero _)), g2, hk, fun _ => rfl, rfl, fun k hk2 => absurd hk2 (Nat.not_lt_zero _)⟩
  | i + 1, hi => by
    obtain ⟨g1, g2, g3, g4, g5, g6⟩ := zTurns h hR ht hk hn i (by omega)
    generalize hX : qfTk σ i = X at g1 g2 g3 g4 g5
    have hF := g1.wf
    have hi2 : i < X 0 2 := by rw [g4]; omega
    have hiσ : i < σ 0 2 := by omega
    have eX : ∀ r j, r < 1000 → r ≠ 70 → r ≠ 163 → r ≠ 131 → r ≠ 133 → r ≠ 0 → r ≠ 16 → r ≠ 32 → r ≠ 134 → (r < 160 ∨ 192 ≤ r) → r ≠ 132 → X r j = qfNow σ r j := fun r j a1 a2 a3 a4 a5 a6 a7 a8 a9 a10 a11 => by rw [← hX]; exact zTk_r a1 a2 a3 a4 a5 a6 a7 a8 a9 a10 a11 i
    have eX2 : ∀ r j, r < 1000 → r ≠ 1 → r ≠ 70 → r ≠ 163 → r ≠ 131 → r ≠ 133 → r ≠ 0 → r ≠ 16 → r ≠ 32 → r ≠ 134 → (r < 160 ∨ 192 ≤ r) → r ≠ 132 → X r j = σ r j := fun r j a1 a0 a2 a3 a4 a5 a6 a7 a8 a9 a10 a11 => (eX r j a1 a2 a3 a4 a5 a6 a7 a8 a9 a10 a11).trans (zNow_r a0)
    have h1 : X 1 0 = σ 1 0 + 1 := (eX 1 0 (by decide) (by decide) (by decide) (by decide) (by decide) (by decide) (by decide) (by decide) (by decide) (by decide) (by decide)).trans (qup_s _ _ _ _)
    have hl : ∀ l r, zl r → X r l = σ r l := fun l r hr => by rcases hr with q | q <;> exact eX2 r l (by omega) (by omega) (by omega) (by omega) (by omega) (by omega) (by omega) (by omega) (by omega) (by omega) (by omega) (by omega)
    have ha : ∀ a r, r = 129 ∨ (144 ≤ r ∧ r ≤ 147) → X r a = σ r a := fun a r hr => by rcases hr with q | q <;> exact eX2 r a (by omega) (by omega) (by omega) (by omega) (by omega) (by omega) (by omega) (by omega) (by omega) (by omega) (by omega) (by omega)
    have iaσ := h.ia i hiσ
    have hP : ∀ a, a < σ 0 2 → σ 146 a ≤ 3 := fun a ha => h.wf.plc ha
    -- the lines leave
    obtain ⟨f1, f2, f3⟩ := g1.fl (κ2 := zκt σ (i + 1)) (a := i) hi2 (zκt_le σ (i + 1)) (fun x l hx => by
      unfold zκt
      by_cases c : x < i
      · rw [if_pos c, if_pos (by omega)]
      · rw [if_neg c, if_neg (by omega)]) (fun l hl2 => by
      have hl3 : l < σ 0 0 := by rw [← g4]; exact hl2
      unfold zκt
      rw [if_neg (Nat.lt_irrefl i), if_pos (Nat.lt_succ_self i)]
      exact zLv iaσ.2.2.2.2.2.2.1 (h.wf.came hl3) (hP i hiσ) h1 (hl l) (ha i))
    have eV : ∀ r j, r ≠ 70 → r ≠ 132 → qfFl X i r j = X r j := fun r j q1 q2 => qfFlS_r X i 0 j q1 q2
    have hV2 : i < qfFl X i 0 2 := by rw [eV 0 2 (by decide) (by decide)]; exact hi2
    have s1 := f1.sh (a := i) hV2
    have h131 := (f1.ia i hV2).2.1
    have r1 : zRel (qfFl X i) (rTk ρ i) := g2.gd (fun r j _ _ q1 q2 _ => eV r j q1 q2)
    have s2 := r1.sh (a := i) hV2 h131
    have eW : ∀ r j, r ≠ 131 → r ≠ 133 → r ≠ 70 → r ≠ 132 → qfTa X i r j = X r j := fun r j q1 q2 q3 q4 => by
      unfold qfTa
      rw [qfSh_r q1 q2, eV r j q3 q4]
    have hW2 : i < qfTa X i 0 2 := by rw [eW 0 2 (by decide) (by decide) (by decide) (by decide)]; exact hi2
    have hW132 : qfTa X i 132 i = qfFl X i 132 i := by unfold qfTa; exact qfSh_r (by decide) (by decide)
    have hcnt : qfTa X i 132 i = qcnt (qfTa X i) i := by
      have s1' : zIw (qfTa X i) (zκt σ (i + 1)) := s1
      rw [s1'.ig.2.1 i hW2]
      unfold qcnt
      refine qsum_congr _ (fun l hl2 => ?_)
      unfold zκt
      rw [if_pos (Nat.lt_succ_self i)]
      refine qB_c (Iff.symm (qcn_of (by rw [zNow_r (by decide)]; exact hP i hiσ) ?_ (fun r hr hr2 => ?_) ?_ (fun r hr => ?_)))
      · rw [eW 1 0 (by decide) (by decide) (by decide) (by decide), h1]; exact (qup_s _ _ _ _).symm
      · rw [eW r l (by omega) (by omega) (by omega) (by omega), hl l r hr, zNow_r (by omega)]
      · rw [eW 69 l (by decide) (by decide) (by decide) (by decide), hl l 69 (by omega), zNow_r (by decide)]
      · rw [eW r i (by omega) (by omega) (by omega) (by omega), ha i r hr, zNow_r (by omega)]
    have hle : qfTa X i 132 i ≤ X 132 i := by
      rw [hW132]
      show qfFlS X i 0 132 i ≤ _
      rw [qfFlS_132]; omega
    have h128 : qfTa X i 128 i = X 128 i := eW 128 i (by decide) (by decide) (by decide) (by decide)
    have hnn : ¬ qNew (qfTa X i) i := by
      rintro ⟨q1, q2⟩
      have q3 : X 131 i = 102 := (g3 i hiσ).mpr (by omega)
      have q4 : qfFl X i 131 i = 102 := (eV 131 i (by decide) (by decide)).trans q3
      have q5 : qfTa X i = qfFl X i := by unfold qfTa qfSh; rw [if_neg (by omega)]
      rw [q5, q4] at q2
      have q6 := (f1.ia i hV2).2.2.2.2.2.2.2.2.2 (by omega)
      exact q2.elim (fun z => absurd z (by decide)) q6.1
    have hn3 : qfTa X i 0 3 < 1300 := by rw [eW 0 3 (by decide) (by decide) (by decide) (by decide), g4]; exact hn
    obtain ⟨k1, k2, k3⟩ := zLook (σ := qfTa X i) s1 s2 hW2 hcnt (fun z => absurd z hnn)
    have hs : qfTk σ (i + 1) = qLook (qfTa X i) i := by rw [← hX]; rfl
    have hr : rTk ρ (i + 1) = rLk (rSh (rTk ρ i) i) i := rfl
    rw [hs, hr]
    refine ⟨k1, k2, fun a ha2 => ?_, fun j => ?_, ?_, fun k hk2 => ?_⟩
    · by_cases c : a = i
      · rw [c]; exact k3
      · have g := g3 a ha2
        unfold zLk at g ⊢
        rw [zLook_s (Or.inl rfl) c, zLook_r (r := 128) (by decide) (by decide) (by decide) (by decide) (by decide) (by decide) (by decide) (by decide) (by decide) (by decide), zLook_r (r := 132) (by decide) (by decide) (by decide) (by decide) (by decide) (by decide) (by decide) (by decide) (by decide) (by decide), eW 128 a (by decide) (by decide) (by decide) (by decide)]
        have e131 : qfTa X i 131 a = X 131 a := by
          unfold qfTa qfSh
          split
          · split
            · rw [qup_k (by decide)]; exact eV 131 a (by decide) (by decide)
            · rw [qup_j c, qup_k (by decide)]; exact eV 131 a (by decide) (by decide)
          · exact eV 131 a (by decide) (by decide)
        have e132 : qfTa X i 132 a = X 132 a := by
          unfold qfTa
          rw [qfSh_r (by decide) (by decide)]
          show qfFlS X i 0 132 a = _
          unfold qfFlS
          rw [qset_k (by decide), qup_j c]
        rw [e131, e132]
        exact g
    · by_cases c : j = 3
      · subst c
        rw [qLook_03, qB_f hnn, eW 0 3 (by decide) (by decide) (by decide) (by decide)]
        exact g4 3
      · rw [qLook_0 c, eW 0 j (by decide) (by decide) (by decide) (by decide)]
        exact g4 j
    · rw [qLook_32, qB_f hnn, if_neg (by decide), eW 32 3 (by decide) (by decide) (by decide) (by decide)]
      exact g5
    · rcases Nat.lt_succ_iff_lt_or_eq.mp hk2 with q | q
      · exact g6 k q
      · subst q
        rw [hX]
        have s1' : zIw (qfTa X k) (zκt σ (k + 1)) := s1
        exact ⟨hF, g1.io.1, f2, f3, f1.wf, h131, s1'.ok hW2 hn3⟩
/-- requests answered, in both -/
theorem zAns {σ ρ : QSt} (h : zIw σ (zκ σ)) (hR : zRel σ ρ) (hq : ∀ x, x < σ 0 4 → (σ 193 x = 0 → σ 1 0 ≤ σ 192 x) ∧ (σ 193 x ≠ 0 → σ 192 x < σ 1 0)) : zRel (qfAr σ) (rAn ρ (ρ 0 4)) ∧ zIw (qfAr σ) (zκ (qfAr σ)) ∧ ∀ x, x < σ 0 4 → (qfAr σ 193 x = 0 → σ 1 0 < σ 192 x) ∧ (qfAr σ 193 x ≠ 0 → σ 192 x ≤ σ 1 0) := by
  obtain ⟨hF, ia, ig, iff_, ip, io⟩ := id h
  have e : ∀ r j, r ≠ 193 → r ≠ 194 → qfAr σ r j = σ r j := fun r j q1 q2 => qfArS_r σ _ j q1 q2
  have e4 : ρ 0 4 = σ 0 4 := hR.n (by decide)
  have e193 : ∀ x, qfAr σ 193 x = if x < σ 0 4 ∧ qdu σ x then 1 else σ 193 x := fun x => by
    unfold qfAr qfArS
    rw [qset_k (by decide)]
    by_cases c : x < σ 0 4 ∧ qdu σ x
    · rw [qset_in c, if_pos c]
    · rw [qset_out c, if_neg c]
  have e194 : ∀ x, qfAr σ 194 x = if x < σ 0 4 ∧ qdu σ x then qarch σ (σ 208 x) (σ 209 x) 0 0 else σ 194 x := fun x => by
    unfold qfAr qfArS
    by_cases c : x < σ 0 4 ∧ qdu σ x
    · rw [qset_in c, if_pos c]
    · rw [qset_out c, if_neg c, qset_k (by decide)]
  have eR : ∀ r j, r ≠ 195 → rAn ρ (ρ 0 4) r j = ρ r j := fun r j hr => rAn_r hr
  have hC : ∀ x, x < σ 0 4 → rAnC ρ x = qarch σ (σ 208 x) (σ 209 x) 0 0 := fun x hx => by
    unfold rAnC qarch
    rw [hR.n (by decide), hR.q hx (r := 208) (by omega), hR.q hx (r := 209) (by omega)]
    refine qsum_congr _ (fun l hl => qB_c ?_)
    rw [hR.l hl (r := 64) (by omega), hR.l hl (r := 69) (by omega), hR.l hl (r := 65) (by omega)]
    unfold qtk
    exact ⟨fun z => ⟨z.2.1, z.1, z.2.2, Or.inl rfl⟩, fun z => ⟨z.2.1, z.1, z.2.2.1⟩⟩
  have hκ : ∀ a l, zκ (qfAr σ) a l = zκ σ a l ∨ ¬ (a < σ 0 2) := fun a l => by
    by_cases c : a < σ 0 2
    · exact Or.inl (qB_c (qcn_of (hF.plc c) (e 1 0 (by decide) (by decide)) (fun r hr _ => e r l (by omega) (by omega)) (by rw [e 69 l (by decide) (by decide)]) (fun r hr => e r a (by omega) (by omega))))
    · exact Or.inr c
  refine ⟨?_, ?_, ?_⟩
  · obtain ⟨g1, g2, g3, g4, g5, g6, g7⟩ := id hR
    refine ⟨fun r j hd => ?_, fun a ha z => ?_, fun f hf l => ?_, fun x hx => ?_, fun p hp => ?_, fun a ha => ?_, fun f hf => ?_⟩
    · have q := hd.ne
      rw [eR r j q.2.2.2.2.2.2.2.2.2.2.1, e r j q.2.2.2.2.2.2.2.2.1 q.2.2.2.2.2.2.2.2.2.1]
      exact g1 r j (hd.cast (e 0 _ (by decide) (by decide)) (e 0 _ (by decide) (by decide)) (e 0 _ (by decide) (by decide)) (e 0 _ (by decide) (by decide)) (e 0 _ (by decide) (by decide)))
    · rw [e 0 2 (by decide) (by decide)] at ha
      rw [e 134 a (by decide) (by decide)] at z ⊢
      rw [eR 135 a (by decide)]
      exact g2 a ha z
    · rw [e 0 3 (by decide) (by decide)] at hf
      rw [e _ l (by omega) (by omega), eR 162 f (by decide), eR _ l (by omega)]
      exact g3 f hf l
    · rw [e 0 4 (by decide) (by decide)] at hx
      have hqx := hq x hx
      have g := g4 x hx
      have h192 : ρ 192 x = σ 192 x := hR.q hx (by omega)
      rw [e193, e194]
      by_cases c : x < σ 0 4 ∧ qdu σ x
      · rw [if_pos c, if_pos c, if_neg (by decide)]
        show (if 195 = 195 ∧ x < ρ 0 4 ∧ ρ 192 x = ρ 1 0 then rAnC ρ x + 1 else ρ 195 x) = _
        have := hqx.1 c.2.1
        rw [if_pos ⟨rfl, by omega, by rw [h192, hR.t]; have := c.2.2; omega⟩, hC x hx]
      · rw [if_neg c, if_neg c]
        show (if 195 = 195 ∧ x < ρ 0 4 ∧ ρ 192 x = ρ 1 0 then rAnC ρ x + 1 else ρ 195 x) = _
        rw [if_neg (fun z => by
          have z3 := z.2.2
          rw [h192, hR.t] at z3
          by_cases y : σ 193 x = 0
          · exact c ⟨hx, y, by omega⟩
          · have := hqx.2 y; omega)]
        exact g
    · rw [e 0 1 (by decide) (by decide)] at hp
      rw [eR 97 p (by decide)]; exact g5 p hp
    · rw [e 0 2 (by decide) (by decide)] at ha
      rw [eR 133 a (by decide)]; exact g6 a ha
    · rw [e 0 3 (by decide) (by decide)] at hf
      exact ⟨by rw [eR 162 f (by decide)]; exact (g7 f hf).1, fun l => by rw [eR _ l (by omega)]; exact (g7 f hf).2 l⟩
  · have hw : zIw (qfAr σ) (zκ σ) := by
      refine ⟨qfArS_wf hF _, ia.of (fun r j hr => e r j (by omega) (by omega)) (fun j _ => ⟨e _ _ (by decide) (by decide), e _ _ (by decide) (by decide)⟩) hF, ig.of (fun r j hr => e r j (by omega) (by omega)), iff_.of (fun r j hr => e r j (by omega) (by omega)), ip.of (fun r j hr => e r j (by omega) (by omega)), ?_⟩
      obtain ⟨o1, o2, o3, o4, o5, o6⟩ := io
      refine ⟨fun i j h1 h2 => ?_, fun l hl hd => ?_, fun l hl => ?_, fun x hx => ?_, fun j hj => ?_, ?_⟩
      · rw [e 0 0 (by decide) (by decide)] at h2
        rw [e 67 i (by decide) (by decide), e 67 j (by decide) (by decide)]; exact o1 i j h1 h2
      · rw [e 0 0 (by decide) (by decide)] at hl
        rw [e 69 l (by decide) (by decide)] at hd
        rw [e 70 l (by decide) (by decide)]; exact o2 l hl hd
      · rw [e 0 0 (by decide) (by decide)] at hl
        rw [e 65 l (by decide) (by decide)]; exact o3 l hl
      · rw [e 0 4 (by decide) (by decide)] at hx
        rw [e193]; split
        · exact Nat.le_refl 1
        · exact o4 x hx
      · rw [e 16 j (by decide) (by decide), e 0 j (by decide) (by decide)]; exact o5 j hj
      · rw [e 1 0 (by decide) (by decide)]; exact o6
    exact hw.cong (fun a l => qB_le) (fun a l ha _ => (hκ a l).resolve_right (fun z => z (by rw [← e 0 2 (by decide) (by decide)]; exact ha)))
  · intro x hx
    have hqx := hq x hx
    rw [e193]
    by_cases c : x < σ 0 4 ∧ qdu σ x
    · rw [if_pos c]; exact ⟨fun z => absurd z (by decide), fun _ => c.2.2⟩
    · rw [if_neg c]
      refine ⟨fun z => ?_, fun z => Nat.le_of_lt (hqx.2 z)⟩
      have h1 := hqx.1 z
      have h2 : ¬ σ 192 x ≤ σ 1 0 := fun y => c ⟨hx, z, y⟩
      omega
