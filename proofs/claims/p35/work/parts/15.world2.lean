/-- the cells behind the growing of a list: a new element v, what comes with it, w, and the row's address q -/
theorem qLW.add {G : QG} {es : Nat} {A : Nat → Prop} {σ σ' ad ad' : QSt} {H0 H : Heap} {J c v w q : Nat} {el ea ev ew : va_E} (h : qLW G es A σ ad H0)
    (hl : va_at G.1 vwCl (ad 1 J, el) H) (ha : va_at G.1 vwCl (q, ea) H) (hv : va_at G.1 vwCl (v, ev) H) (hw : va_at G.1 vwCl (w, ew) H)
    (hk : ∀ k j e, qLV G es σ ad k j = some e → ¬ (k = 1 ∧ j = J) → ¬ (k = 2 ∧ j = J) → H[ad k j]? = H0[ad k j]?)
    (hvl : ¬ qlive (qLV G es σ ad) ad v) (hwl : ¬ qlive (qLV G es σ ad) ad w) (hvw : v ≠ w) (hvq : v ≠ q) (hwq : w ≠ q) (hq : ∀ k j e, qLV G es σ ad k j = some e → ad k j = q → k = 2 ∧ j = J)
    (hAv : A v) (hAw : A w) (hAq : A q) (hA1 : A (ad 1 J)) {e10 : va_E} (h10 : qLV G es σ ad 1 J = some e10)
    (ed : ad' = qup (qup (qup ad (4 + 2 * J) c v) (5 + 2 * J) c w) 2 J q)
    (e1 : qLV G es σ' ad' 1 J = some el) (e2 : qLV G es σ' ad' 2 J = some ea) (e3 : qLV G es σ' ad' (4 + 2 * J) c = some ev) (e4 : qLV G es σ' ad' (5 + 2 * J) c = some ew)
    (ho : ∀ k j, ¬ (k = 1 ∧ j = J) → ¬ (k = 2 ∧ j = J) → ¬ (k = 4 + 2 * J ∧ j = c) → ¬ (k = 5 + 2 * J ∧ j = c) → qLV G es σ' ad' k j = qLV G es σ ad k j) : qLW G es A σ' ad' H := by
  have a2 : ad' 2 J = q := by rw [ed, qup_s]
  have a3 : ad' (4 + 2 * J) c = v := by rw [ed, qup_k (by omega), qup_k (by omega), qup_s]
  have a4 : ad' (5 + 2 * J) c = w := by rw [ed, qup_k (by omega), qup_s]
  have ax : ∀ k j, ¬ (k = 2 ∧ j = J) → ¬ (k = 4 + 2 * J ∧ j = c) → ¬ (k = 5 + 2 * J ∧ j = c) → ad' k j = ad k j := by
    intro k j n2 n3 n4
    rw [ed]
    simp only [qup]
    rw [if_neg n2, if_neg n4, if_neg n3]
  have key : ∀ k j e, qLV G es σ' ad' k j = some e → (k = 2 ∧ j = J ∧ ad' k j = q) ∨ (k = 4 + 2 * J ∧ j = c ∧ ad' k j = v) ∨ (k = 5 + 2 * J ∧ j = c ∧ ad' k j = w) ∨ (¬ (k = 2 ∧ j = J) ∧ ad' k j = ad k j ∧ ∃ e0, qLV G es σ ad k j = some e0) := by
    intro k j e he
    by_cases n2 : k = 2 ∧ j = J
    · obtain ⟨rfl, rfl⟩ := n2; exact Or.inl ⟨rfl, rfl, a2⟩
    by_cases n3 : k = 4 + 2 * J ∧ j = c
    · obtain ⟨rfl, rfl⟩ := n3; exact Or.inr (Or.inl ⟨rfl, rfl, a3⟩)
    by_cases n4 : k = 5 + 2 * J ∧ j = c
    · obtain ⟨rfl, rfl⟩ := n4; exact Or.inr (Or.inr (Or.inl ⟨rfl, rfl, a4⟩))
    refine Or.inr (Or.inr (Or.inr ⟨n2, ax k j n2 n3 n4, ?_⟩))
    by_cases n1 : k = 1 ∧ j = J
    · obtain ⟨rfl, rfl⟩ := n1; exact ⟨_, h10⟩
    · exact ⟨e, by rw [← ho k j n1 n2 n3 n4]; exact he⟩
  refine ⟨fun k j e he => ?_, fun k j k2 j2 e e' g1 g2 g3 => ?_⟩
  · by_cases n2 : k = 2 ∧ j = J
    · obtain ⟨rfl, rfl⟩ := n2; rw [e2] at he; cases he; rw [a2]; exact ⟨ha, hAq⟩
    by_cases n3 : k = 4 + 2 * J ∧ j = c
    · obtain ⟨rfl, rfl⟩ := n3; rw [e3] at he; cases he; rw [a3]; exact ⟨hv, hAv⟩
    by_cases n4 : k = 5 + 2 * J ∧ j = c
    · obtain ⟨rfl, rfl⟩ := n4; rw [e4] at he; cases he; rw [a4]; exact ⟨hw, hAw⟩
    rw [ax k j n2 n3 n4]
    by_cases n1 : k = 1 ∧ j = J
    · obtain ⟨rfl, rfl⟩ := n1; rw [e1] at he; cases he; exact ⟨hl, hA1⟩
    · have he0 : qLV G es σ ad k j = some e := by rw [← ho k j n1 n2 n3 n4]; exact he
      exact ⟨(h.1 _ _ _ he0).1.kept (hk _ _ _ he0 n1 n2), (h.1 _ _ _ he0).2⟩
  · rcases key _ _ _ g1 with ⟨x1, x2, x3⟩ | ⟨x1, x2, x3⟩ | ⟨x1, x2, x3⟩ | ⟨x1, x2, x0, x3⟩ <;> rcases key _ _ _ g2 with ⟨y1, y2, y3⟩ | ⟨y1, y2, y3⟩ | ⟨y1, y2, y3⟩ | ⟨y1, y2, y0, y3⟩
    · exact ⟨by omega, by omega⟩
    · exact absurd (y3.symm.trans (g3.symm.trans x3)) hvq
    · exact absurd (y3.symm.trans (g3.symm.trans x3)) hwq
    · exact absurd (hq _ _ _ y3 (y2.symm.trans (g3.symm.trans x3))) y1
    · exact absurd (x3.symm.trans (g3.trans y3)) hvq
    · exact ⟨by omega, by omega⟩
    · exact absurd (x3.symm.trans (g3.trans y3)) hvw
    · exact absurd ⟨k2, j2, y0, y3, y2.symm.trans (g3.symm.trans x3)⟩ hvl
    · exact absurd (x3.symm.trans (g3.trans y3)) hwq
    · exact absurd (y3.symm.trans (g3.symm.trans x3)) hvw
    · exact ⟨by omega, by omega⟩
    · exact absurd ⟨k2, j2, y0, y3, y2.symm.trans (g3.symm.trans x3)⟩ hwl
    · exact absurd (hq _ _ _ x3 (x2.symm.trans (g3.trans y3))) x1
    · exact absurd ⟨k, j, x0, x3, x2.symm.trans (g3.trans y3)⟩ hvl
    · exact absurd ⟨k, j, x0, x3, x2.symm.trans (g3.trans y3)⟩ hwl
    · exact h.2 _ _ _ _ _ _ x3 y3 (x2.symm.trans (g3.trans y2))
/-- what a call of add leaves -/
def qAx (a E n sz : Nat) : Nat → Prop := fun x => x = a ∨ (0 < n ∧ x = E) ∨ sz ≤ x
def qWv (G : QG) (es : Nat) (A : Nat → Prop) (σ ad : QSt) (v : Nat) (ev : va_E) (av : List Value) : Array Value → State → Prop := va_Pc av (fun U => qCX G U ∧ qLW G es A σ ad U.heap ∧ va_at G.1 vwCl (v, ev) U.heap ∧ ¬ qlive (qLV G es σ ad) ad v ∧ qSZ es A U U.heap ∧ ∀ q, U.heap.size ≤ q → A q)
theorem qWv.blind {G : QG} {es : Nat} {A : Nat → Prop} {σ ad : QSt} {v : Nat} {ev : va_E} {av : List Value} : FrameBlind (qWv G es A σ ad v ev av) := fun _ _ _ _ q => ⟨q.1, q.2.1.blind, q.2.2.1, q.2.2.2.1, q.2.2.2.2.1, q.2.2.2.2.2.1.blind, q.2.2.2.2.2.2⟩
theorem qWv.pre {G : QG} {es : Nat} {A A0 : Nat → Prop} {σ ad : QSt} {v : Nat} {ev : va_E} {av : List Value} {s : State} {H : Heap} {locs : List Loc} (hC : qCX G s) (hW : qLW G es A σ ad H) (hv : va_at G.1 vwCl (v, ev) H) (hvl : ¬ qlive (qLV G es σ ad) ad v) (hZ : qSZ es A0 s s.heap) (hS : va_S A0 s.heap H locs) (hAA : ∀ q, A q → A0 q) (hA : ∀ q, H.size ≤ q → A q) : ∀ U : State, U.heap = H → s.WarmedH U.vm → qWv G es A σ ad v ev av av.toArray U := fun U hU hW2 => ⟨rfl, hC.warm hW2, by rw [hU]; exact hW, by rw [hU]; exact hv, hvl, by rw [hU]; exact ((hZ.kept hS.2.1).narrow hAA).moved hW2.alike, by rw [hU]; exact hA⟩
def qAdP (G : QG) (σ ad : QSt) (J v : Nat) (H0 H : Heap) : Prop := ∃ q : Nat, ((0 < σ 32 J ∧ q = ad 2 J) ∨ H0.size ≤ q) ∧ va_at G.1 vwCl (ad 1 J, .inr (2, [.int (nI (σ 16 J + 1)), .ref q, .int (nI (σ 0 J + 1))])) H ∧ va_at G.1 vwCl (q, .inl (G.2 0, qcap (σ 0 J) (σ 32 J), .inr (.inr (.inr (.inr (fun i => if i < σ 0 J then some (ad (4 + 2 * J) i) else if i = σ 0 J then some v else none)))))) H ∧ H0.size ≤ H.size ∧ ∀ x, x < H0.size → x ≠ ad 1 J → ¬ (0 < σ 32 J ∧ x = ad 2 J) → H[x]? = H0[x]?
def qAdQ (G : QG) (A : Nat → Prop) (σ ad : QSt) (J v : Nat) : Array Value → State → Outcome → State → Prop := fun _ st o t => o = .returned (some (.int (nI 1))) ∧ qAdP G σ ad J v st.heap t.heap ∧ va_F A st t
theorem q_D2 {A : Nat → Prop} {a b : Nat} {x y : va_E} (h : a ≠ b) (ha : A a) (hb : A b) : va_D A [(a, x), (b, y)] := by
  refine ⟨fun i j p q hi hj hpq => ?_, fun k q hk => ?_⟩
  · match i, j, hi, hj with
    | 0, 0, _, _ => rfl
    | 1, 1, _, _ => rfl
    | 0, 1, hi, hj => cases hi; cases hj; exact absurd hpq h
    | 1, 0, hi, hj => cases hi; cases hj; exact absurd hpq.symm h
    | i + 2, _, hi, _ => simp at hi
    | _, j + 2, _, hj => simp at hj
  · match k, hk with
    | 0, hk => cases hk; exact ha
    | 1, hk => cases hk; exact hb
    | k + 2, hk => simp at hk
theorem q_D1 {A : Nat → Prop} {a : Nat} {x : va_E} (ha : A a) : va_D A [(a, x)] := by
  refine ⟨fun i j p q hi hj _ => ?_, fun k q hk => ?_⟩
  · match i, j, hi, hj with
    | 0, 0, _, _ => rfl
    | i + 1, _, hi, _ => simp at hi
    | _, j + 1, _, hj => simp at hj
  · match k, hk with
    | 0, hk => cases hk; exact ha
    | k + 1, hk => simp at hk
set_option maxHeartbeats 4000000 in
theorem m_add (l : Launch) (G : QG) (es : Nat) (A : Nat → Prop) (σ ad : QSt) (J : Nat) (hcap : σ 32 J ≤ 10 + 2 * σ 0 J ∧ (σ 32 J = 0 ∨ 10 ≤ σ 32 J) ∧ σ 0 J ≤ 1300) (hcb : σ 0 J ≤ σ 32 J) (hJ : J < 5) (v : Nat) (vs : List Value) (ms : Nat) (hms : σ 0 J < σ 32 J ∨ qcap (σ 0 J) (σ 32 J) ≤ ms) : Met l yJx4a65c_add_9ea2d wsJx4a65c_add_9ea2d ({ frames := 6, cells := 1, slots := ms, locals := 150 } : Room) (qWv G es A σ ad v (.inr (qci J, vs)) [.ref (ad 1 J), .ref v]) (qAdQ G A σ ad J v) 1 ms A := by
  obtain ⟨r, hci, hca⟩ := qci_ok hJ
  have hA1 : ∀ (s : State) (hW : qLW G es A σ ad s.heap) (hA : ∀ q, s.heap.size ≤ q → A q), ∀ q, qAx (ad 1 J) (ad 2 J) (σ 32 J) s.heap.size q → A q := by
    intro s hW hA q hq
    rcases hq with rfl | ⟨h0, rfl⟩ | hq
    · exact hW.in (qLV1 hJ)
    · exact hW.in (qLV2 hJ h0)
    · exact hA q hq
  have hE : ∀ (s : State) (hW : qLW G es A σ ad s.heap), ∀ i y, (if i < σ 0 J then some (ad (4 + 2 * J) i) else none) = some y → ¬ qAx (ad 1 J) (ad 2 J) (σ 32 J) s.heap.size y ∧ ∃ fs, va_at G.1 vwCl (y, .inr (qci J, fs)) s.heap := by
    intro s hW i y hy
    by_cases hi : i < σ 0 J
    · rw [if_pos hi] at hy
      cases hy
      obtain ⟨e, he⟩ := hW.elem hJ hi
      refine ⟨fun z => ?_, e, hW.to he⟩
      rcases z with z | ⟨h0, z⟩ | z
      · have := hW.2 _ _ _ _ _ _ he (qLV1 hJ) z; omega
      · have := hW.2 _ _ _ _ _ _ he (qLV2 hJ h0) z; omega
      · have := (hW.to he).lt; omega
    · rw [if_neg hi] at hy; cases hy
  have hva : ∀ (s : State), qLW G es A σ ad s.heap → va_at G.1 vwCl (v, .inr (qci J, vs)) s.heap → ¬ qlive (qLV G es σ ad) ad v → ¬ qAx (ad 1 J) (ad 2 J) (σ 32 J) s.heap.size v := by
    intro s hW hv hvl z
    rcases z with z | ⟨h0, z⟩ | z
    · exact hvl ⟨1, J, _, qLV1 hJ, z.symm⟩
    · exact hvl ⟨2, J, _, qLV2 hJ h0, z.symm⟩
    · have := hv.lt; omega
  by_cases h0 : σ 32 J = 0
  · have hc0 : σ 0 J = 0 := by omega
    have hms2 : 10 ≤ ms := by
      rcases hms with z | z
      · omega
      · unfold qcap at z; rw [if_neg (by omega), if_pos h0] at z; exact z
    refine q_met (ι := { x : Nat × Nat // ¬ qAx (ad 1 J) (ad 2 J) (σ 32 J) x.1 v }) (fun x => m_addF l G es (qAx (ad 1 J) (ad 2 J) (σ 32 J) x.1.1) (ad 1 J) x.1.1 x.1.2 (σ 16 J) (qci J) r hci hca v vs x.2 ms hms2) ?_
    rintro a s ⟨hav, hC, hW, hv, hvl, hZ, hA⟩
    obtain ⟨mi, hM⟩ := hC.2.2.2
    have hA2 := hA1 s hW hA
    refine ⟨⟨(s.heap.size, mi), hva s hW hv hvl⟩, ⟨hav, hC, ?_, q_D1 (Or.inl rfl), va_P1 hv, hZ.narrow hA2, fun q hq => Or.inr (Or.inr hq), rfl, (fun i y hy => by cases hy), hM⟩, ?_, hA2⟩
    · have h1 := hW.to (qLV1 (G := G) (es := es) (σ := σ) (ad := ad) hJ)
      rw [if_pos h0, hc0] at h1
      exact va_P1 h1
    · rintro o t ⟨ho, ⟨q, hP1, hD1⟩, hz, hk⟩
      have hq1 : s.heap.size ≤ q := by
        rcases hD1.2 1 _ rfl with z | ⟨z, -⟩ | z
        · exact absurd (hD1.1 0 1 _ _ rfl rfl z.symm) (by decide)
        · omega
        · exact z
      refine ⟨ho, ⟨q, Or.inr hq1, ?_, ?_, hz, fun x hx n1 n2 => hk x hx (fun z => ?_)⟩, hz, fun x hx n => hk x hx (fun z => n (hA2 x z))⟩
      · have := hP1 0 _ rfl; rw [hc0]; exact this
      · have h2 := hP1 1 _ rfl
        have e1 : qcap (σ 0 J) (σ 32 J) = 10 := by unfold qcap; rw [if_neg (by omega), if_pos h0]
        rw [e1, show (fun i => if i < σ 0 J then some (ad (4 + 2 * J) i) else if i = σ 0 J then some v else none) = va_up (fun _ => none) 0 (some v) from funext fun i => by rw [if_neg (by omega), hc0]; rfl]
        exact h2
      · rcases z with z | z | z
        · exact n1 z
        · exact n2 z
        · exact absurd z (Nat.not_le.mpr hx)
  · have hl2 : ∀ (s : State), qLW G es A σ ad s.heap → va_P G.1 vwCl [(ad 1 J, .inr (2, [.int (nI (σ 16 J)), .ref (ad 2 J), .int (nI (σ 0 J))])), (ad 2 J, .inl (G.2 0, σ 32 J, .inr (.inr (.inr (.inr (fun i => if i < σ 0 J then some (ad (4 + 2 * J) i) else none))))))] s.heap := by
      intro s hW
      have h1 := hW.to (qLV1 (G := G) (es := es) (σ := σ) (ad := ad) hJ)
      rw [if_neg h0] at h1
      exact va_P2 h1 (hW.to (qLV2 hJ (by omega)))
    have hd2 : ∀ (s : State), qLW G es A σ ad s.heap → ad 1 J ≠ ad 2 J := by
      intro s hW z
      have := hW.2 _ _ _ _ _ _ (qLV1 hJ) (qLV2 hJ (by omega)) z
      omega
    by_cases hlt : σ 0 J < σ 32 J
    · refine q_met (ι := { x : Nat × Nat // ¬ qAx (ad 1 J) (ad 2 J) (σ 32 J) x.1 v }) (fun x => m_addR l G es (qAx (ad 1 J) (ad 2 J) (σ 32 J) x.1.1) (ad 1 J) (ad 2 J) (σ 32 J) (σ 0 J) x.1.1 x.1.2 (σ 16 J) (fun i => if i < σ 0 J then some (ad (4 + 2 * J) i) else none) hlt (by omega) (qci J) r hci hca v vs x.2 ms (Nat.zero_le _)) ?_
      rintro a s ⟨hav, hC, hW, hv, hvl, hZ, hA⟩
      obtain ⟨mi, hM⟩ := hC.2.2.2
      have hA2 := hA1 s hW hA
      refine ⟨⟨(s.heap.size, mi), hva s hW hv hvl⟩, ⟨hav, hC, hl2 s hW, q_D2 (hd2 s hW) (Or.inl rfl) (Or.inr (Or.inl ⟨by omega, rfl⟩)), va_P1 hv, hZ.narrow hA2, fun q hq => Or.inr (Or.inr hq), rfl, hE s hW, hM⟩, ?_, hA2⟩
      rintro o t ⟨ho, ⟨q, hP1, hD1⟩, hz, hk⟩
      have hq1 : (0 < σ 32 J ∧ q = ad 2 J) ∨ s.heap.size ≤ q := by
        rcases hD1.2 1 _ rfl with z | ⟨-, z⟩ | z
        · exact absurd (hD1.1 0 1 _ _ rfl rfl z.symm) (by decide)
        · exact Or.inl ⟨by omega, z⟩
        · exact Or.inr z
      refine ⟨ho, ⟨q, hq1, hP1 0 _ rfl, ?_, hz, fun x hx n1 n2 => hk x hx (fun z => ?_)⟩, hz, fun x hx n => hk x hx (fun z => n (hA2 x z))⟩
      · have h2 := hP1 1 _ rfl
        have e1 : qcap (σ 0 J) (σ 32 J) = σ 32 J := if_pos hlt
        rw [e1, show (fun i => if i < σ 0 J then some (ad (4 + 2 * J) i) else if i = σ 0 J then some v else none) = va_up (fun i => if i < σ 0 J then some (ad (4 + 2 * J) i) else none) (σ 0 J) (some v) from funext fun i => by
          unfold va_up
          by_cases c : i = σ 0 J
          · rw [if_neg (by omega), if_pos c, if_pos c]
          · rw [if_neg c, if_neg c]]
        exact h2
      · rcases z with z | z | z
        · exact n1 z
        · exact n2 z
        · exact absurd z (Nat.not_le.mpr hx)
    · have hcn : σ 0 J = σ 32 J := by omega
      have e1 : qcap (σ 0 J) (σ 32 J) = σ 32 J + σ 32 J / 2 := by unfold qcap; rw [if_neg hlt, if_neg h0]
      have hms2 : σ 32 J + σ 32 J / 2 ≤ ms := by
        rcases hms with z | z
        · omega
        · rw [e1] at z; exact z
      refine q_met (ι := { x : Nat × Nat // ¬ qAx (ad 1 J) (ad 2 J) (σ 32 J) x.1 v }) (fun x => m_addG l G es (qAx (ad 1 J) (ad 2 J) (σ 32 J) x.1.1) (ad 1 J) (ad 2 J) (σ 32 J) x.1.1 x.1.2 (σ 16 J) (fun i => if i < σ 0 J then some (ad (4 + 2 * J) i) else none) (by omega) (by omega) (qci J) r hci hca v vs x.2 ms hms2) ?_
      rintro a s ⟨hav, hC, hW, hv, hvl, hZ, hA⟩
      obtain ⟨mi, hM⟩ := hC.2.2.2
      have hA2 := hA1 s hW hA
      refine ⟨⟨(s.heap.size, mi), hva s hW hv hvl⟩, ⟨hav, hC, ?_, q_D2 (hd2 s hW) (Or.inl rfl) (Or.inr (Or.inl ⟨by omega, rfl⟩)), va_P1 hv, hZ.narrow hA2, fun q hq => Or.inr (Or.inr hq), rfl, hE s hW, hM⟩, ?_, hA2⟩
      · have := hl2 s hW; rw [hcn] at this ⊢; exact this
      rintro o t ⟨ho, ⟨q, hP1, hD1⟩, hz, hk⟩
      have hq1 : (0 < σ 32 J ∧ q = ad 2 J) ∨ s.heap.size ≤ q := by
        rcases hD1.2 1 _ rfl with z | ⟨-, z⟩ | z
        · exact absurd (hD1.1 0 1 _ _ rfl rfl z.symm) (by decide)
        · exact Or.inl ⟨by omega, z⟩
        · exact Or.inr z
      refine ⟨ho, ⟨q, hq1, ?_, ?_, hz, fun x hx n1 n2 => hk x hx (fun z => ?_)⟩, hz, fun x hx n => hk x hx (fun z => n (hA2 x z))⟩
      · have := hP1 0 _ rfl; rw [hcn]; exact this
      · have h2 := hP1 1 _ rfl
        rw [e1, show (fun i => if i < σ 0 J then some (ad (4 + 2 * J) i) else if i = σ 0 J then some v else none) = va_up (va_cpy (fun i => if i < σ 0 J then some (ad (4 + 2 * J) i) else none) (fun _ => none) 0 0 (σ 32 J)) (σ 32 J) (some v) from funext fun i => by
          unfold va_up va_cpy
          by_cases c : i = σ 32 J
          · rw [if_neg (by omega), if_pos (by omega), if_pos c]
          · rw [if_neg c]
            by_cases c2 : i < σ 0 J
            · rw [if_pos c2, if_pos ⟨Nat.zero_le _, by omega⟩, Nat.zero_add, Nat.sub_zero]
              exact (if_pos c2).symm
            · rw [if_neg c2, if_neg (by omega), if_neg (by omega)]]
        exact h2
      · rcases z with z | z | z
        · exact n1 z
        · exact n2 z
        · exact absurd z (Nat.not_le.mpr hx)
