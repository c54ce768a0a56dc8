/-! the growing keeps what is said of a state -/
theorem qcap_ok {c n : Nat} (h1 : n ≤ 10 + 2 * c) (h2 : n = 0 ∨ 10 ≤ n) (h3 : c ≤ n) : c + 1 ≤ qcap c n ∧ qcap c n ≤ 10 + 2 * (c + 1) ∧ (qcap c n = 0 ∨ 10 ≤ qcap c n) := by
  unfold qcap
  by_cases a : c < n
  · rw [if_pos a]; omega
  · rw [if_neg a]
    by_cases b : n = 0
    · rw [if_pos b]; omega
    · rw [if_neg b]; omega
theorem qWF.grow {σ σ' : QSt} (h : qWF σ) {J : Nat} (hJ : J < 5) (hb : ∀ r i, σ' r i < 1073741824) (hn : σ' 0 0 ≤ 200 ∧ σ' 0 1 ≤ 200 ∧ σ' 0 2 ≤ 6 ∧ σ' 0 3 ≤ 1300 ∧ σ' 0 4 ≤ 20) (s0 : σ' 0 J = σ 0 J + 1) (s32 : σ' 32 J = qcap (σ 0 J) (σ 32 J))
    (hr : ∀ r j, r < 1000 → ¬ (64 + 32 * J ≤ r ∧ r < 96 + 32 * J ∧ j = σ 0 J) → ¬ ((r = 0 ∨ r = 16 ∨ r = 32) ∧ j = J) → σ' r j = σ r j) (h13 : ∀ j, σ' 0 j ≤ 1300)
    (g0 : J = 0 → σ' 68 (σ 0 0) < σ' 0 1 ∧ σ' 67 (σ 0 0) ≤ σ' 1 0 ∧ σ' 64 (σ 0 0) < 4 ∧ σ' 80 (σ 0 0) < 100 ∧ σ' 81 (σ 0 0) < 100 ∧ σ' 82 (σ 0 0) < 100 ∧ σ' 69 (σ 0 0) < 128 ∧ σ' 66 (σ 0 0) < 100)
    (g2 : J = 2 → σ' 134 (σ 0 2) ≤ σ' 0 3 ∧ σ' 146 (σ 0 2) ≤ 3 ∧ σ' 131 (σ 0 2) < 128) (g3 : J = 3 → σ' 160 (σ 0 3) < σ' 0 2) : qWF σ' := by
  obtain ⟨-, h2, h3, h4, h5, h6, h7, h8, h9⟩ := h
  have z : ∀ j, σ 0 j ≤ σ' 0 j := fun j => by
    by_cases c : j = J
    · rw [c, s0]; omega
    · rw [hr 0 j (by omega) (by omega) (by omega)]; exact Nat.le_refl _
  have z1 : ∀ j i, (j = J → i ≠ σ 0 j) → i < σ' 0 j → i < σ 0 j := fun j i n hi => by
    by_cases c : j = J
    · have := n c; rw [c] at hi this ⊢; rw [s0] at hi; omega
    · rw [hr 0 j (by omega) (by omega) (by omega)] at hi; exact hi
  have hq := qcap_ok (h9 J).1 (h9 J).2.1 (h3 J)
  have hx : ∀ r j J2, 64 + 32 * J2 ≤ r → r < 96 + 32 * J2 → ¬ (J = J2 ∧ j = σ 0 J2) → ¬ (64 + 32 * J ≤ r ∧ r < 96 + 32 * J ∧ j = σ 0 J) := by
    intro r j J2 g1 g2 g3 y
    have q : J = J2 := by omega
    subst q
    exact g3 ⟨rfl, y.2.2⟩
  refine ⟨hb, hn, fun j => ?_, fun i hi => ?_, fun f hf => ?_, fun a ha => ?_, fun i hi => ?_, fun a ha => ?_, fun j => ⟨?_, ?_, h13 j⟩⟩
  · by_cases c : j = J
    · rw [c, s0, s32]; exact hq.1
    · rw [hr 0 j (by omega) (by omega) (by omega), hr 32 j (by omega) (by omega) (by omega)]; exact h3 j
  · by_cases c : J = 0 ∧ i = σ 0 0
    · rw [c.2]; exact (g0 c.1).1
    · rw [hr 68 i (by omega) (hx 68 i 0 (by decide) (by decide) c) (by omega)]; exact Nat.lt_of_lt_of_le (h4 i (z1 0 i (fun y q => c ⟨y.symm, q⟩) hi)) (z 1)
  · by_cases c : J = 3 ∧ f = σ 0 3
    · rw [c.2]; exact g3 c.1
    · rw [hr 160 f (by omega) (hx 160 f 3 (by decide) (by decide) c) (by omega)]; exact Nat.lt_of_lt_of_le (h5 f (z1 3 f (fun y q => c ⟨y.symm, q⟩) hf)) (z 2)
  · by_cases c : J = 2 ∧ a = σ 0 2
    · rw [c.2]; exact (g2 c.1).1
    · rw [hr 134 a (by omega) (hx 134 a 2 (by decide) (by decide) c) (by omega)]; exact Nat.le_trans (h6 a (z1 2 a (fun y q => c ⟨y.symm, q⟩) ha)) (z 3)
  · by_cases c : J = 0 ∧ i = σ 0 0
    · rw [c.2]; exact (g0 c.1).2
    · rw [hr 67 i (by omega) (hx 67 i 0 (by decide) (by decide) c) (by omega), hr 1 0 (by omega) (by omega) (by omega), hr 64 i (by omega) (hx 64 i 0 (by decide) (by decide) c) (by omega), hr 80 i (by omega) (hx 80 i 0 (by decide) (by decide) c) (by omega), hr 81 i (by omega) (hx 81 i 0 (by decide) (by decide) c) (by omega), hr 82 i (by omega) (hx 82 i 0 (by decide) (by decide) c) (by omega), hr 69 i (by omega) (hx 69 i 0 (by decide) (by decide) c) (by omega), hr 66 i (by omega) (hx 66 i 0 (by decide) (by decide) c) (by omega)]
      exact h7 i (z1 0 i (fun y q => c ⟨y.symm, q⟩) hi)
  · by_cases c : J = 2 ∧ a = σ 0 2
    · rw [c.2]; exact (g2 c.1).2
    · rw [hr 146 a (by omega) (hx 146 a 2 (by decide) (by decide) c) (by omega), hr 131 a (by omega) (hx 131 a 2 (by decide) (by decide) c) (by omega)]; exact h8 a (z1 2 a (fun y q => c ⟨y.symm, q⟩) ha)
  · by_cases c : j = J
    · rw [c, s0, s32]; exact hq.2.1
    · rw [hr 0 j (by omega) (by omega) (by omega), hr 32 j (by omega) (by omega) (by omega)]; exact (h9 j).1
  · by_cases c : j = J
    · rw [c, s32]; exact hq.2.2
    · rw [hr 32 j (by omega) (by omega) (by omega)]; exact (h9 j).2.1
theorem qups_b {σ : QSt} {c B : Nat} {L : List (Nat × Nat)} (h : ∀ r i, σ r i < B) (hL : ∀ x ∈ L, x.2 < B) : ∀ r i, qups σ c L r i < B := by
  induction L with
  | nil => exact h
  | cons x L ih =>
    intro r i
    show (if r = x.1 ∧ i = c then x.2 else qups σ c L r i) < B
    split
    · exact hL x (List.mem_cons_self)
    · exact ih (fun y hy => hL y (List.mem_cons_of_mem _ hy)) r i
theorem qad_b {σ : QSt} (h : qWF σ) {J : Nat} {L : List (Nat × Nat)} (ha : L.all (fun x => decide (64 + 32 * J ≤ x.1) && decide (x.1 < 96 + 32 * J)) = true) (hL : ∀ x ∈ L, x.2 < 1073741824) (h16 : σ 16 J + 1 < 1073741824) : ∀ r i, qad σ J L r i < 1073741824 := by
  intro r i
  by_cases c : (r = 0 ∨ r = 16 ∨ r = 32) ∧ i = J
  · obtain ⟨c1, rfl⟩ := c
    have hc := h.cap i
    have hq := qcap_ok hc.1 hc.2.1 (h.c i)
    rcases c1 with rfl | rfl | rfl
    · rw [qad_0 ha]; omega
    · rw [qad_16 ha]; exact h16
    · rw [qad_32 ha]; omega
  · unfold qad
    rw [qgr_k c]
    exact qups_b h.1 hL r i
/-- looking at an alert -/
def qfLk (σ : QSt) (a : Nat) : QSt := if σ 128 a ≤ σ 132 a then qfSt (qup (qup σ 131 a 102) 133 a 0) a (σ 134 a - 1) else if σ 131 a = 102 then qup (qup σ 131 a (if 0 < σ 130 a then 104 else 113)) 133 a (σ 130 a) else σ
def qzr (σ : QSt) (r0 : Nat) : QSt := fun r j => if r = r0 then 0 else σ r j
theorem qzr_k {σ : QSt} {r0 r j : Nat} (h : r ≠ r0) : qzr σ r0 r j = σ r j := if_neg h
def qfNf (σ : QSt) (a : Nat) : QSt := qup (qzr (qad σ 3 [(160, a), (161, σ 1 0), (162, 0), (163, 0)]) (1000 + σ 0 3)) 134 a (σ 0 3 + 1)
def qfLn (σ : QSt) (a : Nat) : QSt := qfSt (qup (qup (qfNf σ a) 131 a 102) 133 a 0) a (σ 0 3)
theorem qfNf_ha {σ : QSt} {a : Nat} : (List.all [(160, a), (161, σ 1 0), (162, 0), (163, 0)] (fun x => decide (64 + 32 * 3 ≤ x.1) && decide (x.1 < 96 + 32 * 3))) = true := rfl
theorem qfNf_r {σ : QSt} {a r j : Nat} (h1 : ¬ (160 ≤ r ∧ r < 192 ∧ j = σ 0 3)) (h2 : ¬ ((r = 0 ∨ r = 16 ∨ r = 32) ∧ j = 3)) (h3 : ¬ (r = 134 ∧ j = a)) (h4 : r ≠ 1000 + σ 0 3) : qfNf σ a r j = σ r j := by
  unfold qfNf
  rw [show qup (qzr (qad σ 3 [(160, a), (161, σ 1 0), (162, 0), (163, 0)]) (1000 + σ 0 3)) 134 a (σ 0 3 + 1) r j = qzr (qad σ 3 [(160, a), (161, σ 1 0), (162, 0), (163, 0)]) (1000 + σ 0 3) r j from if_neg h3, qzr_k h4, qad_r qfNf_ha h1 h2]
theorem qfNf_lo {σ : QSt} {a r j : Nat} (h : r < 1000) (h3 : ¬ (r = 134 ∧ j = a)) : qfNf σ a r j = qad σ 3 [(160, a), (161, σ 1 0), (162, 0), (163, 0)] r j := by
  unfold qfNf
  rw [show qup (qzr (qad σ 3 [(160, a), (161, σ 1 0), (162, 0), (163, 0)]) (1000 + σ 0 3)) 134 a (σ 0 3 + 1) r j = qzr (qad σ 3 [(160, a), (161, σ 1 0), (162, 0), (163, 0)]) (1000 + σ 0 3) r j from if_neg h3, qzr_k (by omega)]
theorem qfNf_wf {σ : QSt} (h : qWF σ) {a : Nat} (ha : a < σ 0 2) (hn : σ 0 3 < 1300) (h16 : σ 16 3 + 1 < 1073741824) : qWF (qfNf σ a) := by
  have hb := qad_b h (J := 3) (L := [(160, a), (161, σ 1 0), (162, 0), (163, 0)]) qfNf_ha (fun x hx => by
    have h1 := h.1 1 0
    have h2 := h.n
    simp only [List.mem_cons, List.not_mem_nil, or_false] at hx
    rcases hx with rfl | rfl | rfl | rfl <;> simp only <;> omega) h16
  have hq : qWF (qzr (qad σ 3 [(160, a), (161, σ 1 0), (162, 0), (163, 0)]) (1000 + σ 0 3)) := by
    have hn2 := h.n
    have z0 : ∀ r j, r < 1000 → qzr (qad σ 3 [(160, a), (161, σ 1 0), (162, 0), (163, 0)]) (1000 + σ 0 3) r j = qad σ 3 [(160, a), (161, σ 1 0), (162, 0), (163, 0)] r j := fun r j hr => qzr_k (by omega)
    have z1 : ∀ j, j ≠ 3 → qzr (qad σ 3 [(160, a), (161, σ 1 0), (162, 0), (163, 0)]) (1000 + σ 0 3) 0 j = σ 0 j := fun j hj => by rw [z0 0 j (by decide), qad_r qfNf_ha (by omega) (by omega)]
    have z3 : qzr (qad σ 3 [(160, a), (161, σ 1 0), (162, 0), (163, 0)]) (1000 + σ 0 3) 0 3 = σ 0 3 + 1 := by rw [z0 0 3 (by decide), qad_0 qfNf_ha]
    refine h.grow (J := 3) (by decide) (fun r i => ?_) ?_ z3 (by rw [z0 32 3 (by decide), qad_32 qfNf_ha]) (fun r j g1 g2 g3 => by rw [z0 r j g1, qad_r qfNf_ha g2 g3]) (fun j => ?_) (fun y => absurd y (by decide)) (fun y => absurd y (by decide)) (fun _ => ?_)
    · unfold qzr
      split
      · decide
      · exact hb r i
    · rw [z1 0 (by decide), z1 1 (by decide), z1 2 (by decide), z1 4 (by decide), z3]; omega
    · by_cases c : j = 3
      · rw [c, z3]; omega
      · rw [z1 j c]; exact (h.cap j).2.2
    · rw [z1 2 (by decide), z0 160 _ (by decide), qad_in (r := 160) (v := a) rfl (by decide)]; exact ha
  refine hq.up 134 a (σ 0 3 + 1) (by decide) (by omega) (by decide) (fun z => absurd z (by decide)) (fun z => absurd z (by decide)) (fun z => absurd z (by decide)) (fun _ => ?_)
  rw [qzr_k (by omega), qad_0 qfNf_ha]
  exact Nat.le_refl _

set_option maxHeartbeats 4000000 in
set_option maxRecDepth 100000 in
theorem m_lookAtAlertN (l : Launch) (G : QG) (es : Nat) (A : Nat → Prop) (σ ad : QSt) (hF : qWF σ) (a : Nat) (ha : a < σ 0 2) (hno : σ 128 a ≤ σ 132 a → σ 131 a ≠ 113 ∧ σ 134 a ≠ 0) (hfa : σ 134 a ≠ 0 → σ 160 (σ 134 a - 1) = a) (hm : ∀ i j, i ≤ j → j < σ 0 0 → σ 67 i ≤ σ 67 j) (hs : σ 134 a ≠ 0 → σ 163 (σ 134 a - 1) ≤ 1000000) (hg : ∀ l0, σ 70 l0 ≤ 1000000) : Met l yX7_lookAtAlert wsX7_lookAtAlert ({ frames := 4, cells := 0, slots := 0, locals := 88 } : Room) (qW G es A σ ad [.ref (ad 0 0), .ref (ad 8 a)]) (qWV (none) (qLW G es A (qfLk σ a) ad) A) 0 0 A := by
  refine Met.ofW (cc := cX7_lookAtAlert) (maxL := 2) (ret := none) (by decide) rfl ?_
  intro p e s m args below meth c s₁ B hml hv
  obtain ⟨rfl, hC, hW, hZ, hA⟩ := hv
  have hx := B.exec
  have hb := B.bytes
  have hr := B.returns
  have hts := atoms_spec (ws := wsX7_lookAtAlert) B.pre
  have hown : s.vm.findClass RX7 = some m.cls := findClass_of_methodNamed B.named
  have hlocks := B.notSynchronized
  have hB := hF.1
  have hn := hF.n
  have hS : va_S A s.heap s.heap [] := va_S.rf
  have hl := lv_entry ([.ref (ad 0 0), .ref (ad 8 a)]) (n := 2) (Nat.le_of_ble_eq_true rfl)
  rw [lg_entry_eq]
  generalize (lg_sl ([.ref (ad 0 0), .ref (ad 8 a)]) ++ List.replicate (2 - (lg_sl ([.ref (ad 0 0), .ref (ad 8 a)])).length) Slot.unset).toArray = ls at hl ⊢
  have hl : lv_has ls 2 [(0, .ref (ad 0 0)), (1, .ref (ad 8 a))] := hl
  have iRX7 : ∀ w ∈ wsX70, w ∈ wsX7_lookAtAlert := by decide +kernel
  have iRX0 : ∀ w ∈ wsX00, w ∈ wsX7_lookAtAlert := by decide +kernel
  refine lv_aload_n hx hb dX7_lookAtAlert_0 rfl (lv_at hl 1 rfl) ?_
  refine q_getN (C := RX0) (T := TX0) (N := 9) hx hb hts iRX0 hown hC.1 (hW.to (qLV8 ha)) rfl 6 (by decide) (va_Nw.use rfl (qf_RX7_213 hC)) rfl (v := .int (nI (σ 132 a))) rfl dX7_lookAtAlert_1 ?_
  refine lv_aload_n hx hb dX7_lookAtAlert_4 rfl (lv_at hl 1 rfl) ?_
  refine q_getN (C := RX0) (T := TX0) (N := 9) hx hb hts iRX0 hown hC.1 (hW.to (qLV8 ha)) rfl 2 (by decide) (va_Nw.use rfl (qf_RX7_349 hC)) rfl (v := .int (nI (σ 128 a))) rfl dX7_lookAtAlert_5 ?_
  refine q_lt (tgt := 77) hx hb (q31 (hB _ _)) (q31 (hB _ _)) dX7_lookAtAlert_8 (by decide) (fun c1 => ?_) (fun c1 => ?_)
  · skip
    refine lv_aload_n hx hb dX7_lookAtAlert_77 rfl (lv_at hl 1 rfl) ?_
    refine q_getN (C := RX0) (T := TX0) (N := 9) hx hb hts iRX0 hown hC.1 (hW.to (qLV8 ha)) rfl 5 (by decide) (va_Nw.use rfl (qf_RX7_212 hC)) rfl (v := .int (nI (σ 131 a))) rfl dX7_lookAtAlert_78 ?_
    refine lv_bipush (v := nI 102) hx hb dX7_lookAtAlert_81 (by decide) ?_
    refine q_ne (tgt := 112) hx hb (q31 (hB _ _)) (by decide) dX7_lookAtAlert_83 (by decide) (fun c2 => ?_) (fun c2 => ?_)
    · skip
      exact W.vret hx hb hr (fun t ht _ => ⟨rfl, by rw [ht]; exact (by unfold qfLk; rw [if_neg (by omega), if_neg c2]; exact hW), hS.F ht⟩) hS.2.2 dX7_lookAtAlert_112
    · skip
      refine lv_aload_n hx hb dX7_lookAtAlert_86 rfl (lv_at hl 1 rfl) ?_
      refine lv_aload_n hx hb dX7_lookAtAlert_87 rfl (lv_at hl 1 rfl) ?_
      refine q_getN (C := RX0) (T := TX0) (N := 9) hx hb hts iRX0 hown hC.1 (hW.to (qLV8 ha)) rfl 4 (by decide) (va_Nw.use rfl (qf_RX7_358 hC)) rfl (v := .int (nI (σ 130 a))) rfl dX7_lookAtAlert_88 ?_
      refine q_le0 (tgt := 99) hx hb (q31 (hB _ _)) dX7_lookAtAlert_91 (by decide) (fun c3 => ?_) (fun c3 => ?_)
      · skip
        refine lv_bipush (v := nI 113) hx hb dX7_lookAtAlert_99 (by decide) ?_
        refine q_putN (C := RX0) (T := TX0) (N := 9) (ty := .char) (v := .int (nI 113)) hx hb hts iRX0 tyX0 tyX0_ok nmX0 hown hC.1 (hW.to (qLV8 ha)) (hW.in (qLV8 ha)) hS rfl 5 (by decide) (va_Nw.use rfl (qf_RX7_212 hC)) rfl rfl (by decide +kernel) rfl rfl (Nat.le_of_ble_eq_true rfl) dX7_lookAtAlert_101 (fun H locs hat hsz hoq hS => ?_)
        have hW := hW.up 131 a 113 (by decide) (by decide) (qLV8 ha) ((qLV8 (G := G) (es := es) (σ := qup σ 131 a 113) (ad := ad) ha).trans (by rw [qup_s]; rfl)) hat hoq
        refine lv_aload_n hx hb dX7_lookAtAlert_104 rfl (lv_at hl 1 rfl) ?_
        refine lv_aload_n hx hb dX7_lookAtAlert_105 rfl (lv_at hl 1 rfl) ?_
        refine q_getN (C := RX0) (T := TX0) (N := 9) hx hb hts iRX0 hown hC.1 (hW.to (qLV8 ha)) rfl 4 (by decide) (va_Nw.use rfl (qf_RX7_358 hC)) rfl (v := .int (nI (σ 130 a))) rfl dX7_lookAtAlert_106 ?_
        refine q_putN (C := RX0) (T := TX0) (N := 9) (ty := .int) (v := .int (nI (σ 130 a))) hx hb hts iRX0 tyX0 tyX0_ok nmX0 hown hC.1 (hW.to (qLV8 ha)) (hW.in (qLV8 ha)) hS rfl 7 (by decide) (va_Nw.use rfl (qf_RX7_220 hC)) rfl rfl (by decide +kernel) rfl rfl (Nat.le_of_ble_eq_true rfl) dX7_lookAtAlert_109 (fun H locs hat hsz hoq hS => ?_)
        have hW := hW.up 133 a (σ 130 a) (by decide) (by decide) (qLV8 ha) ((qLV8 (G := G) (es := es) (σ := qup (qup σ 131 a 113) 133 a (σ 130 a)) (ad := ad) ha).trans (by rw [qup_s]; rfl)) hat hoq
        exact W.vret hx hb hr (fun t ht _ => ⟨rfl, by rw [ht]; exact (by unfold qfLk; rw [if_neg (by omega), if_pos c2, if_neg (by omega)]; exact hW), hS.F ht⟩) hS.2.2 dX7_lookAtAlert_112
      · skip
        refine lv_bipush (v := nI 104) hx hb dX7_lookAtAlert_94 (by decide) ?_
        refine lv_goto (tgt := 101) hx hb dX7_lookAtAlert_96 (by decide) ?_
        refine q_putN (C := RX0) (T := TX0) (N := 9) (ty := .char) (v := .int (nI 104)) hx hb hts iRX0 tyX0 tyX0_ok nmX0 hown hC.1 (hW.to (qLV8 ha)) (hW.in (qLV8 ha)) hS rfl 5 (by decide) (va_Nw.use rfl (qf_RX7_212 hC)) rfl rfl (by decide +kernel) rfl rfl (Nat.le_of_ble_eq_true rfl) dX7_lookAtAlert_101 (fun H locs hat hsz hoq hS => ?_)
        have hW := hW.up 131 a 104 (by decide) (by decide) (qLV8 ha) ((qLV8 (G := G) (es := es) (σ := qup σ 131 a 104) (ad := ad) ha).trans (by rw [qup_s]; rfl)) hat hoq
        refine lv_aload_n hx hb dX7_lookAtAlert_104 rfl (lv_at hl 1 rfl) ?_
        refine lv_aload_n hx hb dX7_lookAtAlert_105 rfl (lv_at hl 1 rfl) ?_
        refine q_getN (C := RX0) (T := TX0) (N := 9) hx hb hts iRX0 hown hC.1 (hW.to (qLV8 ha)) rfl 4 (by decide) (va_Nw.use rfl (qf_RX7_358 hC)) rfl (v := .int (nI (σ 130 a))) rfl dX7_lookAtAlert_106 ?_
        refine q_putN (C := RX0) (T := TX0) (N := 9) (ty := .int) (v := .int (nI (σ 130 a))) hx hb hts iRX0 tyX0 tyX0_ok nmX0 hown hC.1 (hW.to (qLV8 ha)) (hW.in (qLV8 ha)) hS rfl 7 (by decide) (va_Nw.use rfl (qf_RX7_220 hC)) rfl rfl (by decide +kernel) rfl rfl (Nat.le_of_ble_eq_true rfl) dX7_lookAtAlert_109 (fun H locs hat hsz hoq hS => ?_)
        have hW := hW.up 133 a (σ 130 a) (by decide) (by decide) (qLV8 ha) ((qLV8 (G := G) (es := es) (σ := qup (qup σ 131 a 104) 133 a (σ 130 a)) (ad := ad) ha).trans (by rw [qup_s]; rfl)) hat hoq
        exact W.vret hx hb hr (fun t ht _ => ⟨rfl, by rw [ht]; exact (by unfold qfLk; rw [if_neg (by omega), if_pos c2, if_pos c3]; exact hW), hS.F ht⟩) hS.2.2 dX7_lookAtAlert_112
  · skip
    obtain ⟨hq, h0⟩ := hno c1
    refine lv_aload_n hx hb dX7_lookAtAlert_11 rfl (lv_at hl 1 rfl) ?_
    refine q_getN (C := RX0) (T := TX0) (N := 9) hx hb hts iRX0 hown hC.1 (hW.to (qLV8 ha)) rfl 5 (by decide) (va_Nw.use rfl (qf_RX7_212 hC)) rfl (v := .int (nI (σ 131 a))) rfl dX7_lookAtAlert_12 ?_
    refine lv_bipush (v := nI 113) hx hb dX7_lookAtAlert_15 (by decide) ?_
    refine q_eq (tgt := 27) hx hb (q31 (hB _ _)) (by decide) dX7_lookAtAlert_17 (by decide) (fun c2 => absurd c2 hq) (fun c2 => ?_)
    refine lv_aload_n hx hb dX7_lookAtAlert_20 rfl (lv_at hl 1 rfl) ?_
    refine q_getN (C := RX0) (T := TX0) (N := 9) hx hb hts iRX0 hown hC.1 (hW.to (qLV8 ha)) rfl 8 (by decide) (va_Nw.use rfl (qf_RX7_247 hC)) rfl (v := (if σ 134 a = 0 then .null else .ref (ad 10 (σ 134 a - 1)))) rfl dX7_lookAtAlert_21 ?_
    refine q_t (w := .ref (ad 10 (σ 134 a - 1))) (if_neg h0) ?_
    refine lv_ifnonnull (tgt := 55) hx hb dX7_lookAtAlert_24 (by decide) ?_
    refine lv_aload_n hx hb dX7_lookAtAlert_55 rfl (lv_at hl 1 rfl) ?_
    refine lv_bipush (v := nI 102) hx hb dX7_lookAtAlert_56 (by decide) ?_
    refine q_putN (C := RX0) (T := TX0) (N := 9) (ty := .char) (v := .int (nI 102)) hx hb hts iRX0 tyX0 tyX0_ok nmX0 hown hC.1 (hW.to (qLV8 ha)) (hW.in (qLV8 ha)) hS rfl 5 (by decide) (va_Nw.use rfl (qf_RX7_212 hC)) rfl rfl (by decide +kernel) rfl rfl (Nat.le_of_ble_eq_true rfl) dX7_lookAtAlert_58 (fun H locs hat hsz hoq hS => ?_)
    have hW := hW.up 131 a 102 (by decide) (by decide) (qLV8 ha) ((qLV8 (G := G) (es := es) (σ := qup σ 131 a 102) (ad := ad) ha).trans (by rw [qup_s]; rfl)) hat hoq
    refine lv_aload_n hx hb dX7_lookAtAlert_61 rfl (lv_at hl 1 rfl) ?_
    refine lv_iconst (v := nI 0) hx hb dX7_lookAtAlert_62 (by decide) ?_
    refine q_putN (C := RX0) (T := TX0) (N := 9) (ty := .int) (v := .int (nI 0)) hx hb hts iRX0 tyX0 tyX0_ok nmX0 hown hC.1 (hW.to (qLV8 ha)) (hW.in (qLV8 ha)) hS rfl 7 (by decide) (va_Nw.use rfl (qf_RX7_220 hC)) rfl rfl (by decide +kernel) rfl rfl (Nat.le_of_ble_eq_true rfl) dX7_lookAtAlert_63 (fun H locs hat hsz hoq hS => ?_)
    have hW := hW.up 133 a 0 (by decide) (by decide) (qLV8 ha) ((qLV8 (G := G) (es := es) (σ := qup (qup σ 131 a 102) 133 a 0) (ad := ad) ha).trans (by rw [qup_s]; rfl)) hat hoq
    refine lv_aload_n hx hb dX7_lookAtAlert_66 rfl (lv_at hl 0 rfl) ?_
    refine lv_aload_n hx hb dX7_lookAtAlert_67 rfl (lv_at hl 1 rfl) ?_
    refine q_getN (C := RX0) (T := TX0) (N := 9) hx hb hts iRX0 hown hC.1 (hW.to (qLV8 ha)) rfl 8 (by decide) (va_Nw.use rfl (qf_RX7_247 hC)) rfl (v := (if σ 134 a = 0 then .null else .ref (ad 10 (σ 134 a - 1)))) rfl dX7_lookAtAlert_68 ?_
    refine q_t (w := .ref (ad 10 (σ 134 a - 1))) (if_neg h0) ?_
    have hF9 : qWF (qup (qup σ 131 a 102) 133 a 0) := (hF.up 131 a 102 (by decide) (by decide) (by decide) (fun z => absurd z (by decide)) (fun z => absurd z (by decide)) (fun _ => by decide) (fun z => absurd z (by decide))).up 133 a 0 (by decide) (by decide) (by decide) (fun z => absurd z (by decide)) (fun z => absurd z (by decide)) (fun z => absurd z (by decide)) (fun z => absurd z (by decide))
    refine q_wn (va_runV (As := [.ref (ad 10 (σ 134 a - 1))]) (rest := []) ⟨hx, hb, hml, hown, hts⟩ (m_standOnCounted l G es A (qup (qup σ 131 a 102) 133 a 0) ad hF9 (σ 134 a - 1) a (by have := hF.fir ha; show σ 134 a - 1 < σ 0 3; omega) (hfa h0) hm (hs h0) hg) (cwV 1 hts gX7_lookAtAlert_X7_standOnCounted rfl rfl rfl (by decide +kernel) ⟨Nat.le_of_ble_eq_true rfl, Nat.le_of_ble_eq_true rfl⟩) ⟨qW.blind, qrecv hC (hW.to qLV0) rfl, qW.pre hC hW hZ hS (fun _ h => h) (fun q h => hA q (Nat.le_trans hS.1 h))⟩ rfl rfl hl.1 rfl (lv_room (Nat.le_of_ble_eq_true rfl)) dX7_lookAtAlert_71 ⟨Nat.le_of_ble_eq_true rfl, Nat.le_of_ble_eq_true rfl⟩) hS (fun _ h => h) (fun _ h => h) (fun H locs hW hz hk hS => ?_)
    refine lv_goto (tgt := 112) hx hb dX7_lookAtAlert_74 (by decide) ?_
    exact W.vret hx hb hr (fun t ht _ => ⟨rfl, by rw [ht]; exact (by unfold qfLk; rw [if_pos c1]; exact hW), hS.F ht⟩) hS.2.2 dX7_lookAtAlert_112
