/-! merging: the states behind it -/
theorem q_subI1 {x y : Nat} (hx : x < 1073741824) (hy : y < 1073741824) : nI x - 1 = nI y - 1 ↔ x = y := by
  refine ⟨fun h => ?_, fun h => by rw [h]⟩
  have h2 : nI x - 1 + 1 = nI y - 1 + 1 := by rw [h]
  rw [Int32.sub_add_cancel, Int32.sub_add_cancel] at h2
  exact (nI_eq (by omega) (by omega)).mp h2
def qfMw (σ : QSt) (a b i : Nat) : QSt := fun r j => if 112 ≤ r ∧ r < 112 + i ∧ j = a ∧ σ r a ≠ σ r b then 0 else σ r j
def qfMl (σ : QSt) (a b i : Nat) : QSt := fun r j => if r = 68 ∧ j < i ∧ σ 68 j = b then a else σ r j
def qfM (σ : QSt) (a b : Nat) : QSt := qfMl (qup (qfMw σ a b 3) 97 b 1) a b (σ 0 0)
theorem qfMw_0 {σ : QSt} {a b : Nat} : qfMw σ a b 0 = σ := by
  funext r j
  exact if_neg (by omega)
theorem qfMw_at {σ : QSt} {a b i r j : Nat} (h : ¬ (112 ≤ r ∧ r < 112 + i ∧ j = a)) : qfMw σ a b i r j = σ r j := if_neg (fun z => h ⟨z.1, z.2.1, z.2.2.1⟩)
theorem qfMw_yes {σ : QSt} {a b i : Nat} (h : σ (112 + i) a ≠ σ (112 + i) b) : qfMw σ a b (i + 1) = qup (qfMw σ a b i) (112 + i) a 0 := by
  funext r j
  simp only [qfMw, qup]
  by_cases c : r = 112 + i ∧ j = a
  · rw [if_pos c, if_pos ⟨by omega, by omega, c.2, by rw [c.1]; exact h⟩]
  · rw [if_neg c]
    by_cases c2 : 112 ≤ r ∧ r < 112 + i ∧ j = a ∧ σ r a ≠ σ r b
    · rw [if_pos c2, if_pos ⟨c2.1, by omega, c2.2.2⟩]
    · rw [if_neg c2, if_neg (fun z => c2 ⟨z.1, by have := z.2.1; have := z.2.2.1; omega, z.2.2⟩)]
theorem qfMw_no {σ : QSt} {a b i : Nat} (h : σ (112 + i) a = σ (112 + i) b) : qfMw σ a b (i + 1) = qfMw σ a b i := by
  funext r j
  simp only [qfMw]
  by_cases c2 : 112 ≤ r ∧ r < 112 + i ∧ j = a ∧ σ r a ≠ σ r b
  · rw [if_pos c2, if_pos ⟨c2.1, by omega, c2.2.2⟩]
  · rw [if_neg c2, if_neg (fun z => c2 ⟨z.1, by
      by_cases q : r = 112 + i
      · rw [q] at z; exact absurd h z.2.2.2
      · have := z.2.1; omega, z.2.2⟩)]
theorem qfMl_0 {σ : QSt} {a b : Nat} : qfMl σ a b 0 = σ := by
  funext r j
  exact if_neg (by omega)
theorem qfMl_r {σ : QSt} {a b i r j : Nat} (h : r ≠ 68) : qfMl σ a b i r j = σ r j := if_neg (fun z => h z.1)
theorem qfMl_at {σ : QSt} {a b i r j : Nat} (h : i ≤ j) : qfMl σ a b i r j = σ r j := if_neg (fun z => by have := z.2.1; omega)
theorem qfMl_yes {σ : QSt} {a b i : Nat} (h : σ 68 i = b) : qfMl σ a b (i + 1) = qup (qfMl σ a b i) 68 i a := by
  funext r j
  simp only [qfMl, qup]
  by_cases c : r = 68 ∧ j = i
  · rw [if_pos c, if_pos ⟨c.1, by omega, by rw [c.2]; exact h⟩]
  · rw [if_neg c]
    by_cases c2 : r = 68 ∧ j < i ∧ σ 68 j = b
    · rw [if_pos c2, if_pos ⟨c2.1, by omega, c2.2.2⟩]
    · rw [if_neg c2, if_neg (fun z => c2 ⟨z.1, by have := z.2.1; have := z.1; omega, z.2.2⟩)]
theorem qfMl_no {σ : QSt} {a b i : Nat} (h : σ 68 i ≠ b) : qfMl σ a b (i + 1) = qfMl σ a b i := by
  funext r j
  simp only [qfMl]
  by_cases c2 : r = 68 ∧ j < i ∧ σ 68 j = b
  · rw [if_pos c2, if_pos ⟨c2.1, by omega, c2.2.2⟩]
  · rw [if_neg c2, if_neg (fun z => c2 ⟨z.1, by
      by_cases q : j = i
      · rw [q] at z; exact absurd z.2.2 h
      · have := z.2.1; omega, z.2.2⟩)]
theorem qWF.sub {σ σ' : QSt} (h : qWF σ) (hb : ∀ r i, σ' r i < 1073741824) (hk : ∀ r i, r < 112 ∨ 116 ≤ r → r ≠ 68 → r ≠ 97 → σ' r i = σ r i) (h68 : ∀ i, i < σ 0 0 → σ' 68 i < σ 0 1) : qWF σ' := by
  obtain ⟨-, h2, h3, h4, h5, h6, h7, h8, h9⟩ := h
  have z : ∀ j, σ' 0 j = σ 0 j := fun j => hk 0 j (by decide) (by decide) (by decide)
  have z1 : ∀ j, σ' 32 j = σ 32 j := fun j => hk 32 j (by decide) (by decide) (by decide)
  refine ⟨hb, ?_, fun j => ?_, fun i hi => ?_, fun f hf => ?_, fun a ha => ?_, fun i hi => ?_, fun a ha => ?_, fun j => ?_⟩
  · rw [z, z, z, z, z]; exact h2
  · rw [z, z1]; exact h3 j
  · rw [z] at hi ⊢; exact h68 i hi
  · rw [z] at hf ⊢; rw [hk 160 f (by decide) (by decide) (by decide)]; exact h5 f hf
  · rw [z] at ha ⊢; rw [hk 134 a (by decide) (by decide) (by decide)]; exact h6 a ha
  · rw [z] at hi; rw [hk 67 i (by decide) (by decide) (by decide), hk 1 0 (by decide) (by decide) (by decide), hk 64 i (by decide) (by decide) (by decide), hk 80 i (by decide) (by decide) (by decide), hk 81 i (by decide) (by decide) (by decide), hk 82 i (by decide) (by decide) (by decide), hk 69 i (by decide) (by decide) (by decide), hk 66 i (by decide) (by decide) (by decide)]; exact h7 i hi
  · rw [z] at ha; rw [hk 146 a (by decide) (by decide) (by decide), hk 131 a (by decide) (by decide) (by decide)]; exact h8 a ha
  · rw [z, z1]; exact h9 j
theorem qfMw_wf {σ : QSt} (h : qWF σ) (a b i : Nat) (hi : i ≤ 3) : qWF (qfMw σ a b i) := by
  refine h.sub (fun r j => ?_) (fun r j h1 _ _ => qfMw_at (by omega)) (fun j hj => by rw [qfMw_at (by omega)]; exact h.pat hj)
  unfold qfMw
  split
  · decide
  · exact h.1 _ _
theorem qfMl_wf {σ : QSt} (h : qWF σ) {a : Nat} (ha : a < σ 0 1) (b i : Nat) : qWF (qfMl σ a b i) := by
  refine h.sub (fun r j => ?_) (fun r j _ h1 _ => qfMl_r h1) (fun j hj => ?_)
  · unfold qfMl
    split
    · have := h.n; omega
    · exact h.1 _ _
  · unfold qfMl
    split
    · exact ha
    · exact h.pat hj
theorem qfM_wf {σ : QSt} (h : qWF σ) {a b : Nat} (ha : a < σ 0 1) : qWF (qfM σ a b) := by
  refine qfMl_wf (((qfMw_wf h a b 3 (Nat.le_refl _)).up 97 b 1 (by decide) (by decide) (by decide) (fun z => absurd z (by decide)) (fun z => absurd z (by decide)) (fun z => absurd z (by decide)) (fun z => absurd z (by decide)))) ?_ b _
  rw [qup_k (by decide), qfMw_at (by omega)]; exact ha
theorem qfM_r {σ : QSt} {a b r j : Nat} (h : r < 112 ∨ 115 ≤ r) (h1 : r ≠ 68) (h2 : r ≠ 97) : qfM σ a b r j = σ r j := by
  unfold qfM
  rw [qfMl_r h1, qup_k h2, qfMw_at (by omega)]
/-- the partner of a pattern -/
noncomputable def qpt (σ : QSt) (c : Nat) : Option Nat := Classical.choose (qFst_ex (fun q => σ 97 q = 0 ∧ σ 96 q = σ 96 c ∧ qdf (fun k => σ (112 + k) q) (fun k => σ (112 + k) c) 3 = 1) (σ 0 1))
theorem qpt_is (σ : QSt) (c : Nat) : qFst (fun q => σ 97 q = 0 ∧ σ 96 q = σ 96 c ∧ qdf (fun k => σ (112 + k) q) (fun k => σ (112 + k) c) 3 = 1) (σ 0 1) (qpt σ c) := Classical.choose_spec (qFst_ex _ _)
/-- the turns of the merging -/
noncomputable def qmI (σ : QSt) (c : Nat) : Nat → QSt × Nat
  | 0 => (σ, c)
  | i + 1 => match qpt (qmI σ c i).1 (qmI σ c i).2 with
    | none => qmI σ c i
    | some q => if q < (qmI σ c i).2 then (qfM (qmI σ c i).1 q (qmI σ c i).2, q) else (qfM (qmI σ c i).1 (qmI σ c i).2 q, (qmI σ c i).2)
theorem qmI_none {σ : QSt} {c i : Nat} (h : qpt (qmI σ c i).1 (qmI σ c i).2 = none) : qmI σ c (i + 1) = qmI σ c i := by
  show (match qpt (qmI σ c i).1 (qmI σ c i).2 with | none => _ | some q => _) = _
  rw [h]
theorem qmI_lt {σ : QSt} {c i q : Nat} (h : qpt (qmI σ c i).1 (qmI σ c i).2 = some q) (h2 : q < (qmI σ c i).2) : qmI σ c (i + 1) = (qfM (qmI σ c i).1 q (qmI σ c i).2, q) := by
  show (match qpt (qmI σ c i).1 (qmI σ c i).2 with | none => _ | some q => _) = _
  rw [h]
  exact if_pos h2
theorem qmI_ge {σ : QSt} {c i q : Nat} (h : qpt (qmI σ c i).1 (qmI σ c i).2 = some q) (h2 : (qmI σ c i).2 ≤ q) : qmI σ c (i + 1) = (qfM (qmI σ c i).1 (qmI σ c i).2 q, (qmI σ c i).2) := by
  show (match qpt (qmI σ c i).1 (qmI σ c i).2 with | none => _ | some q => _) = _
  rw [h]
  exact if_neg (by omega)
theorem qmI_stop {σ : QSt} {c i : Nat} (h : qpt (qmI σ c i).1 (qmI σ c i).2 = none) : ∀ d, qmI σ c (i + d) = qmI σ c i
  | 0 => rfl
  | d + 1 => by
    have h1 := qmI_stop h d
    rw [← Nat.add_assoc, qmI_none (by rw [h1]; exact h), h1]
theorem qpt_some {σ : QSt} {c q : Nat} (h : qpt σ c = some q) : q < σ 0 1 ∧ (σ 97 q = 0 ∧ σ 96 q = σ 96 c ∧ qdf (fun k => σ (112 + k) q) (fun k => σ (112 + k) c) 3 = 1) ∧ ∀ j, j < q → ¬ (σ 97 j = 0 ∧ σ 96 j = σ 96 c ∧ qdf (fun k => σ (112 + k) j) (fun k => σ (112 + k) c) 3 = 1) := by
  have := qpt_is σ c
  rw [h] at this
  exact this
theorem qmI_ok {σ : QSt} (hF : qWF σ) {c : Nat} (hc : c < σ 0 1) : ∀ i, qWF (qmI σ c i).1 ∧ (qmI σ c i).2 < σ 0 1 ∧ ∀ r j, r < 112 ∨ 115 ≤ r → r ≠ 68 → r ≠ 97 → (qmI σ c i).1 r j = σ r j
  | 0 => ⟨hF, hc, fun _ _ _ _ _ => rfl⟩
  | i + 1 => by
    obtain ⟨h1, h2, h3⟩ := qmI_ok hF hc i
    have h01 : (qmI σ c i).1 0 1 = σ 0 1 := h3 0 1 (by decide) (by decide) (by decide)
    cases hp : qpt (qmI σ c i).1 (qmI σ c i).2 with
    | none => rw [qmI_none hp]; exact ⟨h1, h2, h3⟩
    | some q =>
      have hq := (qpt_some hp).1
      rw [h01] at hq
      rcases Nat.lt_or_ge q (qmI σ c i).2 with z | z
      · rw [qmI_lt hp z]
        exact ⟨qfM_wf h1 (by rw [h01]; exact hq), hq, fun r j g1 g2 g3 => (qfM_r g1 g2 g3).trans (h3 r j g1 g2 g3)⟩
      · rw [qmI_ge hp z]
        exact ⟨qfM_wf h1 (by rw [h01]; exact h2), h2, fun r j g1 g2 g3 => (qfM_r g1 g2 g3).trans (h3 r j g1 g2 g3)⟩

set_option maxHeartbeats 4000000 in
set_option maxRecDepth 100000 in
theorem m_put (l : Launch) (G : QG) (es : Nat) (A : Nat → Prop) (σ ad : QSt) (hF : qWF σ) (p0 : Nat) (hp0 : p0 < σ 0 1) (k : Nat) (hk : k < 3) : Met l yX6_put wsX6_put ({ frames := 0, cells := 0, slots := 0, locals := 0 } : Room) (qW G es A σ ad [.ref (ad 7 p0), .int (nI k), .int (nI 0 - 1)]) (qWV (none) (qLW G es A (qup σ (112 + k) p0 0) ad) A) 0 0 A := by
  refine Met.ofW (cc := cX6_put) (maxL := 3) (ret := none) (by decide) rfl ?_
  intro p e s m args below meth c s₁ B hml hv
  obtain ⟨rfl, hC, hW, hZ, hA⟩ := hv
  have hx := B.exec
  have hb := B.bytes
  have hr := B.returns
  have hts := atoms_spec (ws := wsX6_put) B.pre
  have hown : s.vm.findClass RX6 = some m.cls := findClass_of_methodNamed B.named
  have hlocks := B.notSynchronized
  have hB := hF.1
  have hn := hF.n
  have hS : va_S A s.heap s.heap [] := va_S.rf
  have hl := lv_entry ([.ref (ad 7 p0), .int (nI k), .int (nI 0 - 1)]) (n := 3) (Nat.le_of_ble_eq_true rfl)
  rw [lg_entry_eq]
  generalize (lg_sl ([.ref (ad 7 p0), .int (nI k), .int (nI 0 - 1)]) ++ List.replicate (3 - (lg_sl ([.ref (ad 7 p0), .int (nI k), .int (nI 0 - 1)])).length) Slot.unset).toArray = ls at hl ⊢
  have hl : lv_has ls 3 [(0, .ref (ad 7 p0)), (1, .int (nI k)), (2, .int (nI 0 - 1))] := hl
  have iRX6 : ∀ w ∈ wsX60, w ∈ wsX6_put := by decide +kernel
  refine lv_iload_n hx hb dX6_put_0 rfl (lv_at hl 1 rfl) ?_
  refine q_ne0 (tgt := 12) hx hb (by omega) dX6_put_1 (by decide) (fun c1 => ?_) (fun c1 => ?_)
  · skip
    refine lv_iload_n hx hb dX6_put_12 rfl (lv_at hl 1 rfl) ?_
    refine lv_iconst (v := nI 1) hx hb dX6_put_13 (by decide) ?_
    refine q_ne (tgt := 25) hx hb (by omega) (by decide) dX6_put_14 (by decide) (fun c2 => ?_) (fun c2 => ?_)
    · skip
      refine lv_aload_n hx hb dX6_put_25 rfl (lv_at hl 0 rfl) ?_
      refine lv_iload_n hx hb dX6_put_26 rfl (lv_at hl 2 rfl) ?_
      have hkn : k = 2 := by omega
      subst hkn
      refine q_put (C := RX6) (T := TX6) (N := 3) (ty := .int) (v := .int (nI 0 - 1)) hx hb hts iRX6 tyX6 tyX6_ok nmX6 hown hC.1 (hW.to (qLV7 hp0)) (hW.in (qLV7 hp0)) hS rfl 2 (by decide) (hts (.fieldLink RX6 18 "LogWeave$Words" "third" "I") (List.mem_of_getElem? (i := 3) (by decide +kernel))) rfl rfl (by decide +kernel) rfl rfl (Nat.le_of_ble_eq_true rfl) dX6_put_27 (fun H locs hat hsz hoq hS => ?_)
      have hW := hW.up 114 p0 0 (by decide) (by decide) (qLV7 hp0) ((qLV7 (G := G) (es := es) (σ := qup σ 114 p0 0) (ad := ad) hp0).trans (by rw [qup_s]; rfl)) hat hoq
      exact W.vret hx hb hr (fun t ht _ => ⟨rfl, by rw [ht]; exact hW, hS.F ht⟩) hS.2.2 dX6_put_30
    · skip
      refine lv_aload_n hx hb dX6_put_17 rfl (lv_at hl 0 rfl) ?_
      refine lv_iload_n hx hb dX6_put_18 rfl (lv_at hl 2 rfl) ?_
      have hkn : k = 1 := by omega
      subst hkn
      refine q_put (C := RX6) (T := TX6) (N := 3) (ty := .int) (v := .int (nI 0 - 1)) hx hb hts iRX6 tyX6 tyX6_ok nmX6 hown hC.1 (hW.to (qLV7 hp0)) (hW.in (qLV7 hp0)) hS rfl 1 (by decide) (hts (.fieldLink RX6 15 "LogWeave$Words" "second" "I") (List.mem_of_getElem? (i := 2) (by decide +kernel))) rfl rfl (by decide +kernel) rfl rfl (Nat.le_of_ble_eq_true rfl) dX6_put_19 (fun H locs hat hsz hoq hS => ?_)
      have hW := hW.up 113 p0 0 (by decide) (by decide) (qLV7 hp0) ((qLV7 (G := G) (es := es) (σ := qup σ 113 p0 0) (ad := ad) hp0).trans (by rw [qup_s]; rfl)) hat hoq
      refine lv_goto (tgt := 30) hx hb dX6_put_22 (by decide) ?_
      exact W.vret hx hb hr (fun t ht _ => ⟨rfl, by rw [ht]; exact hW, hS.F ht⟩) hS.2.2 dX6_put_30
  · skip
    refine lv_aload_n hx hb dX6_put_4 rfl (lv_at hl 0 rfl) ?_
    refine lv_iload_n hx hb dX6_put_5 rfl (lv_at hl 2 rfl) ?_
    have hkn : k = 0 := by omega
    subst hkn
    refine q_put (C := RX6) (T := TX6) (N := 3) (ty := .int) (v := .int (nI 0 - 1)) hx hb hts iRX6 tyX6 tyX6_ok nmX6 hown hC.1 (hW.to (qLV7 hp0)) (hW.in (qLV7 hp0)) hS rfl 0 (by decide) (hts (.fieldLink RX6 9 "LogWeave$Words" "first" "I") (List.mem_of_getElem? (i := 1) (by decide +kernel))) rfl rfl (by decide +kernel) rfl rfl (Nat.le_of_ble_eq_true rfl) dX6_put_6 (fun H locs hat hsz hoq hS => ?_)
    have hW := hW.up 112 p0 0 (by decide) (by decide) (qLV7 hp0) ((qLV7 (G := G) (es := es) (σ := qup σ 112 p0 0) (ad := ad) hp0).trans (by rw [qup_s]; rfl)) hat hoq
    refine lv_goto (tgt := 30) hx hb dX6_put_9 (by decide) ?_
    exact W.vret hx hb hr (fun t ht _ => ⟨rfl, by rw [ht]; exact hW, hS.F ht⟩) hS.2.2 dX6_put_30
set_option maxHeartbeats 4000000 in
set_option maxRecDepth 100000 in
theorem m_merge (l : Launch) (G : QG) (es : Nat) (A : Nat → Prop) (σ ad : QSt) (hF : qWF σ) (a b : Nat) (ha : a < σ 0 1) (hb2 : b < σ 0 1) (hab : a ≠ b) : Met l yX7_merge wsX7_merge ({ frames := 3, cells := 0, slots := 0, locals := 64 } : Room) (qW G es A σ ad [.ref (ad 0 0), .ref (ad 6 a), .ref (ad 6 b)]) (qWV (none) (qLW G es A (qfM σ a b) ad) A) 0 0 A := by
  refine Met.ofW (cc := cX7_merge) (maxL := 5) (ret := none) (by decide) rfl ?_
  intro p e s m args below meth c s₁ B hml hv
  obtain ⟨rfl, hC, hW, hZ, hA⟩ := hv
  have hx := B.exec
  have hb := B.bytes
  have hr := B.returns
  have hts := atoms_spec (ws := wsX7_merge) B.pre
  have hown : s.vm.findClass RX7 = some m.cls := findClass_of_methodNamed B.named
  have hlocks := B.notSynchronized
  have hB := hF.1
  have hn := hF.n
  have hS : va_S A s.heap s.heap [] := va_S.rf
  have hl := lv_entry ([.ref (ad 0 0), .ref (ad 6 a), .ref (ad 6 b)]) (n := 5) (Nat.le_of_ble_eq_true rfl)
  rw [lg_entry_eq]
  generalize (lg_sl ([.ref (ad 0 0), .ref (ad 6 a), .ref (ad 6 b)]) ++ List.replicate (5 - (lg_sl ([.ref (ad 0 0), .ref (ad 6 a), .ref (ad 6 b)])).length) Slot.unset).toArray = ls at hl ⊢
  have hl : lv_has ls 5 [(0, .ref (ad 0 0)), (1, .ref (ad 6 a)), (2, .ref (ad 6 b))] := hl
  have iRX7 : ∀ w ∈ wsX70, w ∈ wsX7_merge := by decide +kernel
  have iRX4 : ∀ w ∈ wsX40, w ∈ wsX7_merge := by decide +kernel
  have iRX3 : ∀ w ∈ wsX30, w ∈ wsX7_merge := by decide +kernel
  refine lv_iconst (v := nI 0) hx hb dX7_merge_0 (by decide) ?_
  refine lv_istore_n (lv' := [(3, .int (nI 0)), (0, .ref (ad 0 0)), (1, .ref (ad 6 a)), (2, .ref (ad 6 b))]) hx hb dX7_merge_1 rfl hl (by decide) rfl (fun ls hl => ?_)
  refine q_up 3 (fun i H locs ls => qLW G es A (qfMw σ a b i) ad H ∧ va_S A s.heap H locs ∧ lv_has ls 5 [(0, .ref (ad 0 0)), (1, .ref (ad 6 a)), (2, .ref (ad 6 b)), (3, .int (nI i))]) ?_ ?_ (i0 := 0) (Nat.zero_le _) ⟨(by rw [qfMw_0]; exact hW), hS, lv_sub hl [1, 2, 3, 0] rfl⟩
  · rintro H locs ls ⟨hW, hS, hl⟩
    have hF9 := qfMw_wf hF a b 3 (Nat.le_refl _)
    have hR : ∀ r j, r < 112 ∨ 115 ≤ r → r ≠ 68 → r ≠ 97 → (qfMw σ a b 3) r j = σ r j := fun r j h1 _ _ => qfMw_at (by omega)
    have ha9 : a < (qfMw σ a b 3) 0 1 := by rw [hR 0 1 (by omega) (by omega) (by omega)]; exact ha
    have hb9 : b < (qfMw σ a b 3) 0 1 := by rw [hR 0 1 (by omega) (by omega) (by omega)]; exact hb2
    refine lv_iload_n hx hb dX7_merge_2 rfl (lv_at hl 3 rfl) ?_
    refine lv_iconst (v := nI 3) hx hb dX7_merge_3 (by decide) ?_
    refine q_ge (tgt := 41) hx hb (by decide) (by decide) dX7_merge_4 (by decide) (fun g1 => ?_) (fun g1 => (by omega))
    refine lv_aload_n hx hb dX7_merge_41 rfl (lv_at hl 2 rfl) ?_
    refine lv_iconst (v := nI 1) hx hb dX7_merge_42 (by decide) ?_
    refine q_putN (C := RX4) (T := TX4) (N := 4) (ty := .boolean) (v := .int (nI 1)) hx hb hts iRX4 tyX4 tyX4_ok nmX4 hown hC.1 (hW.to (qLV6 hb9)) (hW.in (qLV6 hb9)) hS rfl 3 (by decide) (va_Nw.use rfl (qf_RX7_127 hC)) rfl rfl (by decide +kernel) rfl rfl (Nat.le_of_ble_eq_true rfl) dX7_merge_43 (fun H locs hat hsz hoq hS => ?_)
    have hW := hW.up 97 b 1 (by decide) (by decide) (qLV6 hb9) ((qLV6 (G := G) (es := es) (σ := qup (qfMw σ a b 3) 97 b 1) (ad := ad) hb9).trans (by rw [qup_s]; rfl)) hat hoq
    refine lv_iconst (v := nI 0) hx hb dX7_merge_46 (by decide) ?_
    refine lv_istore_n (lv' := [(3, .int (nI 0)), (0, .ref (ad 0 0)), (1, .ref (ad 6 a)), (2, .ref (ad 6 b))]) hx hb dX7_merge_47 rfl hl (by decide) rfl (fun ls hl => ?_)
    have hF1 : qWF (qup (qfMw σ a b 3) 97 b 1) := hF9.up 97 b 1 (by decide) (by decide) (by decide) (fun z => absurd z (by decide)) (fun z => absurd z (by decide)) (fun z => absurd z (by decide)) (fun z => absurd z (by decide))
    have hR1 : ∀ r j, r < 112 ∨ 115 ≤ r → r ≠ 68 → r ≠ 97 → (qup (qfMw σ a b 3) 97 b 1) r j = σ r j := fun r j h1 h2 h3 => (qup_k h3).trans (qfMw_at (by omega))
    refine q_up (σ 0 0) (fun i H locs ls => qLW G es A (qfMl (qup (qfMw σ a b 3) 97 b 1) a b i) ad H ∧ va_S A s.heap H locs ∧ lv_has ls 5 [(0, .ref (ad 0 0)), (1, .ref (ad 6 a)), (2, .ref (ad 6 b)), (3, .int (nI i))]) ?_ ?_ (i0 := 0) (Nat.zero_le _) ⟨(by rw [qfMl_0]; exact hW), hS, lv_sub hl [1, 2, 3, 0] rfl⟩
    · rintro H locs ls ⟨hW, hS, hl⟩
      refine lv_iload_n hx hb dX7_merge_48 rfl (lv_at hl 3 rfl) ?_
      refine lv_aload_n hx hb dX7_merge_49 rfl (lv_at hl 0 rfl) ?_
      refine q_get (C := RX7) (T := TX7) (N := 7) hx hb hts iRX7 hown hC.1 (hW.to qLV0) rfl 0 (by decide) (hts (.fieldLink RX7 10 "LogWeave" "lineList" "Ljava/util/ArrayList;") (List.mem_of_getElem? (i := 1) (by decide +kernel))) rfl (v := .ref (ad 1 0)) rfl dX7_merge_50 ?_
      refine q_v (va_runV (As := []) (rest := [.int (nI (σ 0 0))]) ⟨hx, hb, hml, hown, hts⟩ (m_size l G (ad 1 0) _ _ (nI ((qfMl (qup (qfMw σ a b 3) 97 b 1) a b (σ 0 0)) 0 0))) (cwV 0 hts gX7_merge_Jx4a65c_size_8abf5 rfl rfl rfl (by decide +kernel) ⟨Nat.le_of_ble_eq_true rfl, Nat.le_of_ble_eq_true rfl⟩) ⟨qO.blind, qrecv hC (hW.to (qLV1 (j := 0) (by decide))) rfl, qO.pre hC (hW.lob (by decide))⟩ rfl rfl hl.1 rfl (lv_room (Nat.le_of_ble_eq_true rfl)) dX7_merge_53 ⟨Nat.le_of_ble_eq_true rfl, Nat.le_of_ble_eq_true rfl⟩) hS (fun _ h => h.elim) (fun locs hS => ?_)
      refine q_ti (y := nI (σ 0 0)) rfl ?_
      refine q_ge (tgt := 93) hx hb (q31 (hB _ _)) (q31 (hB _ _)) dX7_merge_56 (by decide) (fun g2 => ?_) (fun g2 => (by omega))
      exact W.vret hx hb hr (fun t ht _ => ⟨rfl, by rw [ht]; exact (by unfold qfM; exact hW), hS.F ht⟩) hS.2.2 dX7_merge_93
    · rintro i H locs ls hi ⟨hW, hS, hl⟩ ih
      have hF9 := qfMl_wf hF1 (by rw [hR1 0 1 (by omega) (by omega) (by omega)]; exact ha) b i
      have hR : ∀ r j, r < 112 ∨ 115 ≤ r → r ≠ 68 → r ≠ 97 → (qfMl (qup (qfMw σ a b 3) 97 b 1) a b i) r j = σ r j := fun r j h1 h2 h3 => (qfMl_r h2).trans (hR1 r j h1 h2 h3)
      have ha9 : a < (qfMl (qup (qfMw σ a b 3) 97 b 1) a b i) 0 1 := by rw [hR 0 1 (by omega) (by omega) (by omega)]; exact ha
      have hb9 : b < (qfMl (qup (qfMw σ a b 3) 97 b 1) a b i) 0 1 := by rw [hR 0 1 (by omega) (by omega) (by omega)]; exact hb2
      have hi9 : i < (qfMl (qup (qfMw σ a b 3) 97 b 1) a b i) 0 0 := by rw [hR 0 0 (by omega) (by omega) (by omega)]; exact hi
      refine lv_iload_n hx hb dX7_merge_48 rfl (lv_at hl 3 rfl) ?_
      refine lv_aload_n hx hb dX7_merge_49 rfl (lv_at hl 0 rfl) ?_
      refine q_get (C := RX7) (T := TX7) (N := 7) hx hb hts iRX7 hown hC.1 (hW.to qLV0) rfl 0 (by decide) (hts (.fieldLink RX7 10 "LogWeave" "lineList" "Ljava/util/ArrayList;") (List.mem_of_getElem? (i := 1) (by decide +kernel))) rfl (v := .ref (ad 1 0)) rfl dX7_merge_50 ?_
      refine q_v (va_runV (As := []) (rest := [.int (nI i)]) ⟨hx, hb, hml, hown, hts⟩ (m_size l G (ad 1 0) _ _ (nI ((qfMl (qup (qfMw σ a b 3) 97 b 1) a b i) 0 0))) (cwV 0 hts gX7_merge_Jx4a65c_size_8abf5 rfl rfl rfl (by decide +kernel) ⟨Nat.le_of_ble_eq_true rfl, Nat.le_of_ble_eq_true rfl⟩) ⟨qO.blind, qrecv hC (hW.to (qLV1 (j := 0) (by decide))) rfl, qO.pre hC (hW.lob (by decide))⟩ rfl rfl hl.1 rfl (lv_room (Nat.le_of_ble_eq_true rfl)) dX7_merge_53 ⟨Nat.le_of_ble_eq_true rfl, Nat.le_of_ble_eq_true rfl⟩) hS (fun _ h => h.elim) (fun locs hS => ?_)
      refine q_ti (y := nI (σ 0 0)) rfl ?_
      refine q_ge (tgt := 93) hx hb (by omega) (q31 (hB _ _)) dX7_merge_56 (by decide) (fun g3 => (by omega)) (fun g3 => ?_)
      refine lv_aload_n hx hb dX7_merge_59 rfl (lv_at hl 0 rfl) ?_
      refine q_get (C := RX7) (T := TX7) (N := 7) hx hb hts iRX7 hown hC.1 (hW.to qLV0) rfl 0 (by decide) (hts (.fieldLink RX7 10 "LogWeave" "lineList" "Ljava/util/ArrayList;") (List.mem_of_getElem? (i := 1) (by decide +kernel))) rfl (v := .ref (ad 1 0)) rfl dX7_merge_60 ?_
      refine lv_iload_n hx hb dX7_merge_63 rfl (lv_at hl 3 rfl) ?_
      refine q_v (va_runV (As := [.int (nI i)]) (rest := []) ⟨hx, hb, hml, hown, hts⟩ (m_get l G (ad 1 0) (ad 2 0) ((qfMl (qup (qfMw σ a b 3) 97 b 1) a b i) 32 0) ((qfMl (qup (qfMw σ a b 3) 97 b 1) a b i) 0 0) (fun i => if i < (qfMl (qup (qfMw σ a b 3) 97 b 1) a b i) 0 0 then some (ad (4 + 2 * 0) i) else none) (.int (nI ((qfMl (qup (qfMw σ a b 3) 97 b 1) a b i) 16 0))) i (ad 4 i) hi9 (hF9.c 0) (hF9.1 _ _) (if_pos hi9)) (cwV 1 hts gX7_merge_Jx4a65c_get_915e3 rfl rfl rfl (by decide +kernel) ⟨Nat.le_of_ble_eq_true rfl, Nat.le_of_ble_eq_true rfl⟩) ⟨qO.blind, qrecv hC (hW.to (qLV1 (j := 0) (by decide))) rfl, qO.pre hC (hW.list hF9 (J := 0) (by decide) hi9)⟩ rfl rfl hl.1 rfl (lv_room (Nat.le_of_ble_eq_true rfl)) dX7_merge_64 ⟨Nat.le_of_ble_eq_true rfl, Nat.le_of_ble_eq_true rfl⟩) hS (fun _ h => h.elim) (fun locs hS => ?_)
      refine va_castS hx hb hown (hts (.classLink RX7 74 "LogWeave$Line") (List.mem_of_getElem? (i := 2) (by decide +kernel))) (hC.1.1 6 _ rfl).2 (qrecv hC (hW.to (qLV4 hi9)) rfl) dX7_merge_67 ?_
      refine lv_astore (lv' := [(4, .ref (ad 4 i)), (0, .ref (ad 0 0)), (1, .ref (ad 6 a)), (2, .ref (ad 6 b)), (3, .int (nI i))]) hx hb dX7_merge_70 hl (by decide) rfl (fun ls hl => ?_)
      refine lv_aload hx hb dX7_merge_72 (lv_at hl 0 rfl) ?_
      refine q_getN (C := RX3) (T := TX3) (N := 8) hx hb hts iRX3 hown hC.1 (hW.to (qLV4 hi9)) rfl 5 (by decide) (va_Nw.use rfl (qf_RX7_107 hC)) rfl (v := .ref (ad 6 ((qfMl (qup (qfMw σ a b 3) 97 b 1) a b i) 68 i))) rfl dX7_merge_74 ?_
      refine lv_aload_n hx hb dX7_merge_77 rfl (lv_at hl 3 rfl) ?_
      have hp9 : (qfMl (qup (qfMw σ a b 3) 97 b 1) a b i) 68 i = (qup (qfMw σ a b 3) 97 b 1) 68 i := qfMl_at (Nat.le_refl _)
      have hq9 : (qfMl (qup (qfMw σ a b 3) 97 b 1) a b i) 68 i < (qfMl (qup (qfMw σ a b 3) 97 b 1) a b i) 0 1 := hF9.pat hi9
      refine q_acmp_ne (tgt := 87) hx hb dX7_merge_78 (by decide) (fun c3 => ?_) (fun c3 => ?_)
      · skip
        have c4 : (qup (qfMw σ a b 3) 97 b 1) 68 i ≠ b := fun z => c3 (by rw [hp9, z])
        refine lv_iinc (v := nI (i + 1)) (lv' := [(3, .int (nI (i + 1))), (4, .ref (ad 4 i)), (0, .ref (ad 0 0)), (1, .ref (ad 6 a)), (2, .ref (ad 6 b))]) hx hb dX7_merge_87 hl (k := 4) rfl (nI_1 i) (by decide) rfl (fun ls hl => ?_)
        refine lv_goto (tgt := 48) hx hb dX7_merge_90 (by decide) ?_
        exact ih _ _ ls ⟨(by rw [qfMl_no c4]; exact hW), hS, lv_sub hl [2, 3, 4, 0] rfl⟩
      · skip
        have c4 : (qup (qfMw σ a b 3) 97 b 1) 68 i = b := hp9.symm.trans ((hW.2 _ _ _ _ _ _ (qLV6 hq9) (qLV6 hb9) c3).2)
        refine lv_aload hx hb dX7_merge_81 (lv_at hl 0 rfl) ?_
        refine lv_aload_n hx hb dX7_merge_83 rfl (lv_at hl 2 rfl) ?_
        refine q_putN (C := RX3) (T := TX3) (N := 8) (ty := .object "LogWeave$Pattern") (v := .ref (ad 6 a)) hx hb hts iRX3 tyX3 tyX3_ok nmX3 hown hC.1 (hW.to (qLV4 hi9)) (hW.in (qLV4 hi9)) hS rfl 5 (by decide) (va_Nw.use rfl (qf_RX7_107 hC)) rfl rfl (by decide +kernel) rfl rfl (Nat.le_of_ble_eq_true rfl) dX7_merge_84 (fun H locs hat hsz hoq hS => ?_)
        have hi8 : i < qup (qfMl (qup (qfMw σ a b 3) 97 b 1) a b i) 68 i a 0 0 := hi9
        have hW := hW.up 68 i a (by decide) (by decide) (qLV4 hi9) ((qLV4 (G := G) (es := es) (σ := qup (qfMl (qup (qfMw σ a b 3) 97 b 1) a b i) 68 i a) (ad := ad) hi9).trans (by rw [qup_s]; rfl)) hat hoq
        refine lv_iinc (v := nI (i + 1)) (lv' := [(3, .int (nI (i + 1))), (4, .ref (ad 4 i)), (0, .ref (ad 0 0)), (1, .ref (ad 6 a)), (2, .ref (ad 6 b))]) hx hb dX7_merge_87 hl (k := 4) rfl (nI_1 i) (by decide) rfl (fun ls hl => ?_)
        refine lv_goto (tgt := 48) hx hb dX7_merge_90 (by decide) ?_
        exact ih _ _ ls ⟨(by rw [qfMl_yes c4]; exact hW), hS, lv_sub hl [2, 3, 4, 0] rfl⟩
  · rintro i H locs ls hi ⟨hW, hS, hl⟩ ih
    have hF9 := qfMw_wf hF a b i (Nat.le_of_lt hi)
    have hR : ∀ r j, r < 112 ∨ 115 ≤ r → r ≠ 68 → r ≠ 97 → (qfMw σ a b i) r j = σ r j := fun r j h1 _ _ => qfMw_at (by omega)
    have ha9 : a < (qfMw σ a b i) 0 1 := by rw [hR 0 1 (by omega) (by omega) (by omega)]; exact ha
    have hb9 : b < (qfMw σ a b i) 0 1 := by rw [hR 0 1 (by omega) (by omega) (by omega)]; exact hb2
    refine lv_iload_n hx hb dX7_merge_2 rfl (lv_at hl 3 rfl) ?_
    refine lv_iconst (v := nI 3) hx hb dX7_merge_3 (by decide) ?_
    refine q_ge (tgt := 41) hx hb (by omega) (by decide) dX7_merge_4 (by decide) (fun g4 => (by omega)) (fun g4 => ?_)
    refine lv_aload_n hx hb dX7_merge_7 rfl (lv_at hl 1 rfl) ?_
    refine q_getN (C := RX4) (T := TX4) (N := 4) hx hb hts iRX4 hown hC.1 (hW.to (qLV6 ha9)) rfl 2 (by decide) (va_Nw.use rfl (qf_RX7_138 hC)) rfl (v := .ref (ad 7 a)) rfl dX7_merge_8 ?_
    refine lv_iload_n hx hb dX7_merge_11 rfl (lv_at hl 3 rfl) ?_
    refine q_v (va_runVN (C := RX6) (As := [.int (nI i)]) (rest := []) ⟨hx, hb, hml, hown, hts⟩ (m_at l G (ad 7 a) (fun k => nI ((qfMw σ a b i) (112 + k) a) - 1) i hi) ⟨va_cnB 1 hts gX7_merge_X6_at_n142 rfl rfl rfl (qm_RX7_142 hC) (hts (.initialized RX6) (List.mem_of_getElem? (i := 4) (by decide +kernel))) (by decide +kernel) ⟨Nat.le_of_ble_eq_true rfl, Nat.le_of_ble_eq_true rfl⟩, (hts (.instanceMethod yX6_at) (List.mem_of_getElem? (i := 3) (by decide +kernel))), (hts (.selects RX6 yX6_at yX6_at) (List.mem_of_getElem? (i := 5) (by decide +kernel)))⟩ ⟨qO.blind, qrecv hC (hW.to (qLV7 ha9)) rfl, qO.pre hC (va_P1 (hW.to (qLV7 ha9)))⟩ rfl rfl hl.1 rfl (lv_room (Nat.le_of_ble_eq_true rfl)) dX7_merge_12 ⟨Nat.le_of_ble_eq_true rfl, Nat.le_of_ble_eq_true rfl⟩) hS (fun _ h => h.elim) (fun locs hS => ?_)
    refine lv_aload_n hx hb dX7_merge_15 rfl (lv_at hl 2 rfl) ?_
    refine q_getN (C := RX4) (T := TX4) (N := 4) hx hb hts iRX4 hown hC.1 (hW.to (qLV6 hb9)) rfl 2 (by decide) (va_Nw.use rfl (qf_RX7_138 hC)) rfl (v := .ref (ad 7 b)) rfl dX7_merge_16 ?_
    refine lv_iload_n hx hb dX7_merge_19 rfl (lv_at hl 3 rfl) ?_
    refine q_v (va_runVN (C := RX6) (As := [.int (nI i)]) (rest := [.int (nI ((qfMw σ a b i) (112 + i) a) - 1)]) ⟨hx, hb, hml, hown, hts⟩ (m_at l G (ad 7 b) (fun k => nI ((qfMw σ a b i) (112 + k) b) - 1) i hi) ⟨va_cnB 1 hts gX7_merge_X6_at_n142 rfl rfl rfl (qm_RX7_142 hC) (hts (.initialized RX6) (List.mem_of_getElem? (i := 4) (by decide +kernel))) (by decide +kernel) ⟨Nat.le_of_ble_eq_true rfl, Nat.le_of_ble_eq_true rfl⟩, (hts (.instanceMethod yX6_at) (List.mem_of_getElem? (i := 3) (by decide +kernel))), (hts (.selects RX6 yX6_at yX6_at) (List.mem_of_getElem? (i := 5) (by decide +kernel)))⟩ ⟨qO.blind, qrecv hC (hW.to (qLV7 hb9)) rfl, qO.pre hC (va_P1 (hW.to (qLV7 hb9)))⟩ rfl rfl hl.1 rfl (lv_room (Nat.le_of_ble_eq_true rfl)) dX7_merge_20 ⟨Nat.le_of_ble_eq_true rfl, Nat.le_of_ble_eq_true rfl⟩) hS (fun _ h => h.elim) (fun locs hS => ?_)
    have e1 : (qfMw σ a b i) (112 + i) a = σ (112 + i) a := qfMw_at (by omega)
    have e2 : (qfMw σ a b i) (112 + i) b = σ (112 + i) b := qfMw_at (by omega)
    refine lv_icmp_eq (tgt := 35) hx hb dX7_merge_23 (by decide) (fun c3 => ?_) (fun c3 => ?_)
    · skip
      have c4 : σ (112 + i) a = σ (112 + i) b := by rw [← e1, ← e2]; exact (q_subI1 (hF9.1 _ _) (hF9.1 _ _)).mp c3
      refine lv_iinc (v := nI (i + 1)) (lv' := [(3, .int (nI (i + 1))), (0, .ref (ad 0 0)), (1, .ref (ad 6 a)), (2, .ref (ad 6 b))]) hx hb dX7_merge_35 hl (k := 3) rfl (nI_1 i) (by decide) rfl (fun ls hl => ?_)
      refine lv_goto (tgt := 2) hx hb dX7_merge_38 (by decide) ?_
      exact ih _ _ ls ⟨(by rw [qfMw_no c4]; exact hW), hS, lv_sub hl [1, 2, 3, 0] rfl⟩
    · skip
      have c4 : σ (112 + i) a ≠ σ (112 + i) b := fun z => c3 ((q_subI1 (hF9.1 _ _) (hF9.1 _ _)).mpr (by rw [e1, e2]; exact z))
      refine lv_aload_n hx hb dX7_merge_26 rfl (lv_at hl 1 rfl) ?_
      refine q_getN (C := RX4) (T := TX4) (N := 4) hx hb hts iRX4 hown hC.1 (hW.to (qLV6 ha9)) rfl 2 (by decide) (va_Nw.use rfl (qf_RX7_138 hC)) rfl (v := .ref (ad 7 a)) rfl dX7_merge_27 ?_
      refine lv_iload_n hx hb dX7_merge_30 rfl (lv_at hl 3 rfl) ?_
      refine lv_iconst (v := -1) hx hb dX7_merge_31 (by decide) ?_
      refine q_ti (y := nI 0 - 1) (by decide) ?_
      refine q_wn (va_runVN (C := RX6) (As := [.int (nI i), .int (nI 0 - 1)]) (rest := []) ⟨hx, hb, hml, hown, hts⟩ (m_put l G es A (qfMw σ a b i) ad hF9 a ha9 i hi) ⟨va_cnB 2 hts gX7_merge_X6_put_n341 rfl rfl rfl (qm_RX7_341 hC) (hts (.initialized RX6) (List.mem_of_getElem? (i := 4) (by decide +kernel))) (by decide +kernel) ⟨Nat.le_of_ble_eq_true rfl, Nat.le_of_ble_eq_true rfl⟩, (hts (.instanceMethod yX6_put) (List.mem_of_getElem? (i := 10) (by decide +kernel))), (hts (.selects RX6 yX6_put yX6_put) (List.mem_of_getElem? (i := 11) (by decide +kernel)))⟩ ⟨qW.blind, qrecv hC (hW.to (qLV7 ha9)) rfl, qW.pre hC hW hZ hS (fun _ h => h) (fun q h => hA q (Nat.le_trans hS.1 h))⟩ rfl rfl hl.1 rfl (lv_room (Nat.le_of_ble_eq_true rfl)) dX7_merge_32 ⟨Nat.le_of_ble_eq_true rfl, Nat.le_of_ble_eq_true rfl⟩) hS (fun _ h => h) (fun _ h => h) (fun H locs hW hz hk hS => ?_)
      refine lv_iinc (v := nI (i + 1)) (lv' := [(3, .int (nI (i + 1))), (0, .ref (ad 0 0)), (1, .ref (ad 6 a)), (2, .ref (ad 6 b))]) hx hb dX7_merge_35 hl (k := 3) rfl (nI_1 i) (by decide) rfl (fun ls hl => ?_)
      refine lv_goto (tgt := 2) hx hb dX7_merge_38 (by decide) ?_
      exact ih _ _ ls ⟨(by rw [qfMw_yes c4]; exact hW), hS, lv_sub hl [1, 2, 3, 0] rfl⟩
