theorem q_setbitR (ρ : QSt) (f l : Nat) (hl : l < 200) : vp_updL (fun i => qbits (ρ (1000 + i / 4)) 50 (i % 4)) (4 * f + l / 50) (qbits (ρ (1000 + f)) 50 (l / 50) ||| ((1 : Int64) <<< ((nI (l % 50)).toInt64 &&& 63))) = fun i => qbits (qup ρ (1000 + f) l 1 (1000 + i / 4)) 50 (i % 4) := by
  have h1 := q_setbits (F := ρ (1000 + f)) (k := 50) (l := l) (by decide) (by decide)
  funext i
  by_cases c : i = 4 * f + l / 50
  · have e1 : i / 4 = f := by omega
    have e2 : i % 4 = l / 50 := by omega
    have h2 := congrFun h1 (l / 50)
    have h3 : vp_updL (qbits (ρ (1000 + f)) 50) (l / 50) (qbits (ρ (1000 + f)) 50 (l / 50) ||| ((1 : Int64) <<< ((nI (l % 50)).toInt64 &&& 63))) (l / 50) = (qbits (ρ (1000 + f)) 50 (l / 50) ||| ((1 : Int64) <<< ((nI (l % 50)).toInt64 &&& 63))) := if_pos rfl
    rw [h3] at h2
    unfold vp_updL
    rw [if_pos c, e1, e2, h2]
    congr 1
    funext j
    unfold qup
    by_cases d : j = l
    · rw [if_pos d, if_pos ⟨rfl, d⟩]
    · rw [if_neg d, if_neg (fun z => d z.2)]
  · unfold vp_updL
    rw [if_neg c]
    by_cases e1 : i / 4 = f
    · rw [e1]
      refine qbits_congr (fun b hb => ?_)
      have e : 50 * (i % 4) + b ≠ l := by omega
      rw [qup_j e, e1]
    · have e : qup ρ (1000 + f) l 1 (1000 + i / 4) = ρ (1000 + i / 4) := by
        funext j
        exact qup_k (by omega)
      rw [e]
/-- one that has too few -/
def rLkA (ρ : QSt) (a : Nat) : QSt := if ρ 131 a = 102 then qup (qup ρ 131 a (if ρ 130 a = 0 then 113 else 104)) 133 a (ρ 130 a) else ρ
/-- one that has enough: its firing -/
def rLkN (ρ : QSt) (a : Nat) : QSt := if ρ 131 a = 113 then qup (qup (qup (qup ρ 135 a (ρ 0 3)) 160 (ρ 0 3) a) 161 (ρ 0 3) (ρ 1 0)) 0 3 (ρ 0 3 + 1) else ρ
def rLkB (ρ : QSt) (a : Nat) : QSt := qup (qup (rLkN ρ a) 131 a 102) 133 a 0
def rLkS (ρ : QSt) (a i : Nat) : QSt := qset ρ (1000 + ρ 135 a) (fun l => l < i ∧ qcn ρ a l) (fun _ => 1)
def rLk (ρ : QSt) (a : Nat) : QSt := if qcnt ρ a < ρ 128 a then rLkA ρ a else rLkS (rLkB ρ a) a (ρ 0 0)
theorem rLkN_r {ρ : QSt} {a r j : Nat} (h0 : r ≠ 0) (h1 : r ≠ 135) (h2 : r ≠ 160) (h3 : r ≠ 161) : rLkN ρ a r j = ρ r j := by
  unfold rLkN
  split
  · rw [qup_k h0, qup_k h3, qup_k h2, qup_k h1]
  · rfl
theorem rLkN_0 {ρ : QSt} {a j : Nat} (h : j ≠ 3) : rLkN ρ a 0 j = ρ 0 j := by
  unfold rLkN
  split
  · rw [qup_j h]; rfl
  · rfl
theorem rLkB_r {ρ : QSt} {a r j : Nat} (h0 : r ≠ 0) (h1 : r ≠ 135) (h2 : r ≠ 160) (h3 : r ≠ 161) (h4 : r ≠ 131) (h5 : r ≠ 133) : rLkB ρ a r j = ρ r j := by
  unfold rLkB
  rw [qup_k h5, qup_k h4, rLkN_r h0 h1 h2 h3]
theorem rLkB_0 {ρ : QSt} {a j : Nat} (h : j ≠ 3) : rLkB ρ a 0 j = ρ 0 j := by
  show rLkN ρ a 0 j = _
  exact rLkN_0 h
theorem rLkB_03 {ρ : QSt} {a : Nat} : ρ 0 3 ≤ rLkB ρ a 0 3 ∧ rLkB ρ a 0 3 ≤ ρ 0 3 + 1 := by
  show ρ 0 3 ≤ rLkN ρ a 0 3 ∧ rLkN ρ a 0 3 ≤ ρ 0 3 + 1
  unfold rLkN
  split
  · rw [qup_s]; omega
  · omega
theorem rLkB_rwf {ρ : QSt} (h : rWF ρ) {a : Nat} (ha : a < ρ 0 2) (hn : ρ 131 a = 113 → ρ 0 3 < 1300) : rWF (rLkB ρ a) ∧ rLkB ρ a 135 a < rLkB ρ a 0 3 := by
  have hb := h.n
  have h02 : rLkB ρ a 0 2 = ρ 0 2 := rLkB_0 (by decide)
  have h00 : rLkB ρ a 0 0 = ρ 0 0 := rLkB_0 (by decide)
  have h01 : rLkB ρ a 0 1 = ρ 0 1 := rLkB_0 (by decide)
  have h04 : rLkB ρ a 0 4 = ρ 0 4 := rLkB_0 (by decide)
  have h03 := rLkB_03 (ρ := ρ) (a := a)
  have hB := h.1
  have hf : rLkB ρ a 135 a < rLkB ρ a 0 3 := by
    show rLkN ρ a 135 a < rLkN ρ a 0 3
    unfold rLkN
    split
    · rw [qup_s, qup_k (by decide), qup_k (by decide), qup_k (by decide), qup_s]; omega
    · rename_i c; exact (h.al ha).2.1 c
  refine ⟨⟨?_, ?_, ?_, ?_, ?_⟩, hf⟩
  · unfold rLkB
    refine qup_b (qup_b ?_ (by decide) _ _) (by decide) _ _
    unfold rLkN
    split
    · rename_i c
      have := hn c
      exact qup_b (qup_b (qup_b (qup_b hB (by omega) _ _) (by omega) _ _) (hB _ _) _ _) (by omega) _ _
    · exact hB
  · rw [h00, h01, h02, h04]
    have : rLkB ρ a 0 3 ≤ 1300 := by
      show rLkN ρ a 0 3 ≤ 1300
      unfold rLkN
      split
      · rename_i c; have := hn c; rw [qup_s]; omega
      · omega
    omega
  · intro j hj
    rw [h00] at hj
    rw [rLkB_r (by decide) (by decide) (by decide) (by decide) (by decide) (by decide), rLkB_r (by decide) (by decide) (by decide) (by decide) (by decide) (by decide), rLkB_r (by decide) (by decide) (by decide) (by decide) (by decide) (by decide)]
    exact h.lin hj
  · intro x hx
    rw [h02] at hx
    have g := h.al hx
    rw [rLkB_r (by decide) (by decide) (by decide) (by decide) (by decide) (by decide)]
    refine ⟨g.1, fun c => ?_, fun c => ?_⟩
    · by_cases d : x = a
      · subst d; exact hf
      · have e : rLkB ρ a 131 x = ρ 131 x := by
          show qup (qup (rLkN ρ a) 131 a 102) 133 a 0 131 x = _
          rw [qup_k (by decide), qup_j d, rLkN_r (by decide) (by decide) (by decide) (by decide)]
        have e2 : rLkB ρ a 135 x = ρ 135 x := by
          show rLkN ρ a 135 x = _
          unfold rLkN
          split
          · rw [qup_k (by decide), qup_k (by decide), qup_k (by decide), qup_j d]
          · rfl
        rw [e] at c
        rw [e2]
        have := g.2.1 c
        omega
    · by_cases d : x = a
      · subst d
        have e : rLkB ρ x 131 x = 102 := by
          show qup (qup (rLkN ρ x) 131 x 102) 133 x 0 131 x = _
          rw [qup_k (by decide), qup_s]
        rw [e] at c
        exact absurd c (by decide)
      · have e : rLkB ρ a 131 x = ρ 131 x := by
          show qup (qup (rLkN ρ a) 131 a 102) 133 a 0 131 x = _
          rw [qup_k (by decide), qup_j d, rLkN_r (by decide) (by decide) (by decide) (by decide)]
        have e2 : rLkB ρ a 133 x = ρ 133 x := by
          show qup (qup (rLkN ρ a) 131 a 102) 133 a 0 133 x = _
          rw [qup_j d, qup_k (by decide), rLkN_r (by decide) (by decide) (by decide) (by decide)]
        rw [e] at c
        rw [e2]
        exact g.2.2 c
  · intro f hf2
    rw [h02]
    show rLkN ρ a 160 f < _
    have hf3 : f < rLkN ρ a 0 3 := hf2
    unfold rLkN at hf3 ⊢
    split
    · rename_i c
      rw [if_pos c, qup_s] at hf3
      rw [qup_k (by decide), qup_k (by decide)]
      by_cases d : f = ρ 0 3
      · rw [d, qup_s]; exact ha
      · rw [qup_j d, qup_k (by decide)]; exact h.fir (by omega)
    · rename_i c
      rw [if_neg c] at hf3
      exact h.fir hf3
theorem rLkS_rwf {ρ : QSt} (h : rWF ρ) (a i : Nat) : rWF (rLkS ρ a i) := by
  refine h.sub (fun r j => ?_) (fun r j hr => qset_k (by omega))
  unfold rLkS qset; split
  · show (1 : Nat) < 1073741824; decide
  · exact h.1 r j
theorem rLkS_r {ρ : QSt} {a i r j : Nat} (h : r < 1000) : rLkS ρ a i r j = ρ r j := qset_k (by omega)
theorem rLkS_0 (ρ : QSt) (a : Nat) : rLkS ρ a 0 = ρ := qset_none (fun j z => absurd z.1 (by omega))
theorem qcn_congr {ρ ρ2 : QSt} {a l : Nat} (hP : ρ 146 a ≤ 3) (h : ∀ r j, r < 1000 → ρ2 r j = ρ r j) : qcn ρ2 a l ↔ qcn ρ a l := by
  unfold qcn qcw qtk
  rw [h 69 l (by decide), h 1 0 (by decide), h 67 l (by decide), h 129 a (by decide), h 64 l (by decide), h 144 a (by decide), h 145 a (by decide), h 65 l (by decide), h 146 a (by decide), h 147 a (by decide), h (80 + (ρ 146 a - 1)) l (by omega)]
theorem rLkS_yes {ρ : QSt} {a i : Nat} (h : qcn ρ a i) : rLkS ρ a (i + 1) = qup (rLkS ρ a i) (1000 + ρ 135 a) i 1 := by
  unfold rLkS
  rw [qset_ins (P := fun l => l < i ∧ qcn ρ a l) (i := i) (fun j => ⟨fun z => (Nat.lt_succ_iff_lt_or_eq.mp z.1).elim (fun q => Or.inl ⟨q, z.2⟩) Or.inr, fun z => z.elim (fun q => ⟨by omega, q.2⟩) (fun q => by rw [q]; exact ⟨Nat.lt_succ_self _, h⟩)⟩)]
theorem rLkS_no {ρ : QSt} {a i : Nat} (h : ¬ qcn ρ a i) : rLkS ρ a (i + 1) = rLkS ρ a i := by
  unfold rLkS
  exact qset_eq (fun j => ⟨fun z => ⟨(Nat.lt_succ_iff_lt_or_eq.mp z.1).elim id (fun q => absurd (by rw [← q]; exact z.2) h), z.2⟩, fun z => ⟨by omega, z.2⟩⟩)
theorem rLkA_rwf {ρ : QSt} (h : rWF ρ) {a : Nat} (ha : a < ρ 0 2) : rWF (rLkA ρ a) := by
  unfold rLkA
  split
  · rename_i c
    obtain ⟨h1, h2, h3, h4, h5⟩ := h
    refine ⟨qup_b (qup_b h1 (by split <;> decide) _ _) (h1 _ _) _ _, h2, h3, fun x hx => ?_, h5⟩
    have g := h4 x hx
    show ρ 146 x ≤ 3 ∧ (qup (qup ρ 131 a (if ρ 130 a = 0 then 113 else 104)) 133 a (ρ 130 a) 131 x ≠ 113 → ρ 135 x < ρ 0 3) ∧ (qup (qup ρ 131 a (if ρ 130 a = 0 then 113 else 104)) 133 a (ρ 130 a) 131 x = 104 → 1 ≤ qup (qup ρ 131 a (if ρ 130 a = 0 then 113 else 104)) 133 a (ρ 130 a) 133 x)
    have e1 : qup (qup ρ 131 a (if ρ 130 a = 0 then 113 else 104)) 133 a (ρ 130 a) 131 x = qup ρ 131 a (if ρ 130 a = 0 then 113 else 104) 131 x := qup_k (by decide)
    rw [e1]
    by_cases d : x = a
    · subst d
      refine ⟨g.1, fun _ => g.2.1 (by omega), fun z => ?_⟩
      rw [qup_s] at z
      rw [qup_s]
      by_cases q : ρ 130 x = 0
      · rw [if_pos q] at z; exact absurd z (by decide)
      · omega
    · rw [qup_j d, qup_j d, qup_k (by decide)]
      exact g
  · exact h
theorem rLk_rwf {ρ : QSt} (h : rWF ρ) {a : Nat} (ha : a < ρ 0 2) (hn : ρ 131 a = 113 → ρ 128 a ≤ qcnt ρ a → ρ 0 3 < 1300) : rWF (rLk ρ a) := by
  unfold rLk
  split
  · exact rLkA_rwf h ha
  · exact rLkS_rwf (rLkB_rwf h ha (fun z => hn z (by omega))).1 _ _

set_option maxHeartbeats 4000000 in
set_option maxRecDepth 100000 in
theorem m_rlook (l : Launch) (G : QG) (A : Nat → Prop) (ρ bd : QSt) (hF : rWF ρ) (a : Nat) (ha : a < ρ 0 2) (hn3 : ρ 131 a = 113 → ρ 128 a ≤ qcnt ρ a → ρ 0 3 < 1300) : Met l yX8_look wsX8_look ({ frames := 2, cells := 0, slots := 0, locals := 46 } : Room) (rR G A ρ bd [.ref (bd 0 0), .int (nI a)]) (qWV none (rW G A (rLk ρ a) bd) A) 0 0 A := by
  refine Met.ofW (cc := cX8_look) (maxL := 3) (ret := none) (by decide) rfl ?_
  intro p e s m args below meth c s₁ B hml hv
  obtain ⟨rfl, hC, hW⟩ := hv
  have hx := B.exec
  have hb := B.bytes
  have hr := B.returns
  have hts := atoms_spec (ws := wsX8_look) B.pre
  have hown : s.vm.findClass RX8 = some m.cls := findClass_of_methodNamed B.named
  have hlocks := B.notSynchronized
  have hB := hF.1
  have hn := hF.n
  have hS : va_S A s.heap s.heap [] := va_S.rf
  have hl := lv_entry ([.ref (bd 0 0), .int (nI a)]) (n := 3) (Nat.le_of_ble_eq_true rfl)
  rw [lg_entry_eq]
  generalize (lg_sl ([.ref (bd 0 0), .int (nI a)]) ++ List.replicate (3 - (lg_sl ([.ref (bd 0 0), .int (nI a)])).length) Slot.unset).toArray = ls at hl ⊢
  have hl : lv_has ls 3 [(0, .ref (bd 0 0)), (1, .int (nI a))] := hl
  have iRX8 : ∀ w ∈ wsX80, w ∈ wsX8_look := by decide +kernel
  have hq9 : qcnt ρ a ≤ 200 := Nat.le_trans (qsum_bound (b := 1) _ (fun l _ => qB_le)) (by omega)
  refine lv_aload_n hx hb dX8_look_0 rfl (lv_at hl 0 rfl) ?_
  refine lv_iload_n hx hb dX8_look_1 rfl (lv_at hl 1 rfl) ?_
  refine q_v (va_runV (As := [.int (nI a)]) (rest := []) ⟨hx, hb, hml, hown, hts⟩ (m_rcountNow l G A ρ bd hF a ha) (cwV 1 hts gX8_look_X8_countNow rfl rfl rfl (by decide +kernel) ⟨Nat.le_of_ble_eq_true rfl, Nat.le_of_ble_eq_true rfl⟩) ⟨rR.blind, qrecv hC (hW.to rLV0) rfl, rR.pre hC hW⟩ rfl rfl hl.1 rfl (lv_room (Nat.le_of_ble_eq_true rfl)) dX8_look_2 ⟨Nat.le_of_ble_eq_true rfl, Nat.le_of_ble_eq_true rfl⟩) hS (fun _ h => h.elim) (fun locs hS => ?_)
  refine lv_aload_n hx hb dX8_look_5 rfl (lv_at hl 0 rfl) ?_
  refine q_get (C := RX8) (T := TX8) (N := 36) hx hb hts iRX8 hown hC.1 (hW.to rLV0) rfl 19 (by decide) (hts (.fieldLink RX8 54 "LogWeaveModel" "goal" "[I") (List.mem_of_getElem? (i := 1) (by decide +kernel))) rfl (v := .ref (bd 15 0)) rfl dX8_look_6 ?_
  refine lv_iload_n hx hb dX8_look_9 rfl (lv_at hl 1 rfl) ?_
  refine r_iald hx hb hC.1 (hW.to rLV15) 1 rfl (i := a) (by omega) (by decide) (v := nI (ρ 128 a)) rfl dX8_look_10 ?_
  refine q_ge (tgt := 60) hx hb (by omega) (q31 (hB _ _)) dX8_look_11 (by decide) (fun g1 => ?_) (fun g1 => ?_)
  · skip
    have hge : ¬ qcnt ρ a < ρ 128 a := by omega
    refine lv_aload_n hx hb dX8_look_60 rfl (lv_at hl 0 rfl) ?_
    refine q_get (C := RX8) (T := TX8) (N := 36) hx hb hts iRX8 hown hC.1 (hW.to rLV0) rfl 22 (by decide) (hts (.fieldLink RX8 63 "LogWeaveModel" "alert" "[C") (List.mem_of_getElem? (i := 2) (by decide +kernel))) rfl (v := .ref (bd 18 0)) rfl dX8_look_61 ?_
    refine lv_iload_n hx hb dX8_look_64 rfl (lv_at hl 1 rfl) ?_
    refine r_cald hx hb hC.1 (hW.to rLV18) 3 rfl (i := a) (by omega) (by decide) (v := nI (ρ 131 a)) rfl dX8_look_65 ?_
    refine lv_bipush (v := nI 113) hx hb dX8_look_66 (by decide) ?_
    refine q_ne (tgt := 114) hx hb (q31 (hB _ _)) (by decide) dX8_look_68 (by decide) (fun g2 => ?_) (fun g2 => ?_)
    · skip
      have hW : rW G A (rLkN ρ a) bd _ := (by rw [rLkN, if_neg g2]; exact hW)
      refine lv_aload_n hx hb dX8_look_114 rfl (lv_at hl 0 rfl) ?_
      refine q_get (C := RX8) (T := TX8) (N := 36) hx hb hts iRX8 hown hC.1 (hW.to rLV0) rfl 22 (by decide) (hts (.fieldLink RX8 63 "LogWeaveModel" "alert" "[C") (List.mem_of_getElem? (i := 2) (by decide +kernel))) rfl (v := .ref (bd 18 0)) rfl dX8_look_115 ?_
      refine lv_iload_n hx hb dX8_look_118 rfl (lv_at hl 1 rfl) ?_
      refine lv_bipush (v := nI 102) hx hb dX8_look_119 (by decide) ?_
      refine q_cast hx hb hC.1 (hW.to rLV18) (hW.in rLV18) hS 3 rfl (vp_in_nI (n := a) (by omega) (by decide)) dX8_look_121 (fun H1 locs hat hsz hoq hS => ?_)
      rw [nI_clamp (n := a) (by omega)] at hat
      rw [show vp_nar .char (nI 102) = nI 102 from by decide] at hat
      rw [r_upd (rLkN ρ a) 131 a 102] at hat
      have hW := hW.upR 131 a 102 rfl rLV18 (rLV18 (ρ := (qup (rLkN ρ a) 131 a 102))) hat hoq
      refine lv_aload_n hx hb dX8_look_122 rfl (lv_at hl 0 rfl) ?_
      refine q_get (C := RX8) (T := TX8) (N := 36) hx hb hts iRX8 hown hC.1 (hW.to rLV0) rfl 23 (by decide) (hts (.fieldLink RX8 66 "LogWeaveModel" "left" "[I") (List.mem_of_getElem? (i := 4) (by decide +kernel))) rfl (v := .ref (bd 19 0)) rfl dX8_look_123 ?_
      refine lv_iload_n hx hb dX8_look_126 rfl (lv_at hl 1 rfl) ?_
      refine lv_iconst (v := nI 0) hx hb dX8_look_127 (by decide) ?_
      refine q_iast hx hb hC.1 (hW.to rLV19) (hW.in rLV19) hS 1 rfl (vp_in_nI (n := a) (by omega) (by decide)) dX8_look_128 (fun H1 locs hat hsz hoq hS => ?_)
      rw [nI_clamp (n := a) (by omega)] at hat
      rw [r_upd (qup (rLkN ρ a) 131 a 102) 133 a 0] at hat
      have hW := hW.upR 133 a 0 rfl rLV19 (rLV19 (ρ := (qup (qup (rLkN ρ a) 131 a 102) 133 a 0))) hat hoq
      have hW : rW G A (rLkB ρ a) bd _ := hW
      obtain ⟨hFB, hfa⟩ := rLkB_rwf hF ha (fun z => hn3 z (by omega))
      have h00 : rLkB ρ a 0 0 = ρ 0 0 := rLkB_0 (by decide)
      have h02 : rLkB ρ a 0 2 = ρ 0 2 := rLkB_0 (by decide)
      have hnB := hFB.n
      have h3B := (hFB.al (a := a) (by omega)).1
      refine lv_iconst (v := nI 0) hx hb dX8_look_129 (by decide) ?_
      refine lv_istore_n (lv' := [(2, .int (nI 0)), (0, .ref (bd 0 0)), (1, .int (nI a))]) hx hb dX8_look_130 rfl hl (by decide) rfl (fun ls hl => ?_)
      refine q_up (ρ 0 0) (fun i H locs ls => rW G A (rLkS (rLkB ρ a) a i) bd H ∧ va_S A s.heap H locs ∧ lv_has ls 3 [(0, .ref (bd 0 0)), (1, .int (nI a)), (2, .int (nI i))]) ?_ ?_ (i0 := 0) (Nat.zero_le _) ⟨(by rw [rLkS_0]; exact hW), hS, lv_sub hl [1, 2, 0] rfl⟩
      · rintro H locs ls ⟨hW, hS, hl⟩
        refine lv_iload_n hx hb dX8_look_131 rfl (lv_at hl 2 rfl) ?_
        refine lv_aload_n hx hb dX8_look_132 rfl (lv_at hl 0 rfl) ?_
        refine q_get (C := RX8) (T := TX8) (N := 36) hx hb hts iRX8 hown hC.1 (hW.to rLV0) rfl 2 (by decide) (hts (.fieldLink RX8 104 "LogWeaveModel" "lines" "I") (List.mem_of_getElem? (i := 10) (by decide +kernel))) rfl (v := .int (nI ((rLkS (rLkB ρ a) a (ρ 0 0)) 0 0))) rfl dX8_look_133 ?_
        refine q_ti (y := nI (ρ 0 0)) (by rw [rLkS_r (by decide), h00]) ?_
        refine q_ge (tgt := 181) hx hb (q31 (hB _ _)) (q31 (hB _ _)) dX8_look_136 (by decide) (fun g3 => ?_) (fun g3 => (by omega))
        exact W.vret hx hb hr (fun t ht _ => ⟨rfl, by rw [ht]; exact (by rw [rLk, if_neg hge]; exact hW), hS.F ht⟩) hS.2.2 dX8_look_181
      · rintro i H locs ls hi ⟨hW, hS, hl⟩ ih
        have hFi := rLkS_rwf hFB a i
        have hc9 : qcn (rLkS (rLkB ρ a) a i) a i ↔ qcn (rLkB ρ a) a i := qcn_congr h3B (fun r j h => rLkS_r h)
        refine lv_iload_n hx hb dX8_look_131 rfl (lv_at hl 2 rfl) ?_
        refine lv_aload_n hx hb dX8_look_132 rfl (lv_at hl 0 rfl) ?_
        refine q_get (C := RX8) (T := TX8) (N := 36) hx hb hts iRX8 hown hC.1 (hW.to rLV0) rfl 2 (by decide) (hts (.fieldLink RX8 104 "LogWeaveModel" "lines" "I") (List.mem_of_getElem? (i := 10) (by decide +kernel))) rfl (v := .int (nI ((rLkS (rLkB ρ a) a i) 0 0))) rfl dX8_look_133 ?_
        refine q_ti (y := nI (ρ 0 0)) (by rw [rLkS_r (by decide), h00]) ?_
        refine q_ge (tgt := 181) hx hb (by omega) (q31 (hB _ _)) dX8_look_136 (by decide) (fun g4 => (by omega)) (fun g4 => ?_)
        refine lv_aload_n hx hb dX8_look_139 rfl (lv_at hl 0 rfl) ?_
        refine lv_iload_n hx hb dX8_look_140 rfl (lv_at hl 1 rfl) ?_
        refine lv_iload_n hx hb dX8_look_141 rfl (lv_at hl 2 rfl) ?_
        refine q_v (va_runV (As := [.int (nI a), .int (nI i)]) (rest := []) ⟨hx, hb, hml, hown, hts⟩ (m_rcounts l G A (rLkS (rLkB ρ a) a i) bd hFi a i (by rw [rLkS_r (by decide), h02]; exact ha) (by rw [rLkS_r (by decide), h00]; exact hi)) (cwV 2 hts gX8_look_X8_counts rfl rfl rfl (by decide +kernel) ⟨Nat.le_of_ble_eq_true rfl, Nat.le_of_ble_eq_true rfl⟩) ⟨rR.blind, qrecv hC (hW.to rLV0) rfl, rR.pre hC hW⟩ rfl rfl hl.1 rfl (lv_room (Nat.le_of_ble_eq_true rfl)) dX8_look_142 ⟨Nat.le_of_ble_eq_true rfl, Nat.le_of_ble_eq_true rfl⟩) hS (fun _ h => h.elim) (fun locs hS => ?_)
        refine q_eq0 (tgt := 175) hx hb q_31B dX8_look_145 (by decide) (fun g5 => ?_) (fun g5 => ?_)
        · skip
          have hq : ¬ qcn (rLkB ρ a) a i := fun h => by rw [qB_t (hc9.mpr h)] at g5; exact absurd g5 (by decide)
          refine lv_iinc (v := nI (i + 1)) (lv' := [(2, .int (nI (i + 1))), (0, .ref (bd 0 0)), (1, .int (nI a))]) hx hb dX8_look_175 hl (k := 2) rfl (nI_1 i) (by decide) rfl (fun ls hl => ?_)
          refine lv_goto (tgt := 131) hx hb dX8_look_178 (by decide) ?_
          exact ih _ _ ls ⟨(by rw [rLkS_no hq]; exact hW), hS, lv_sub hl [1, 2, 0] rfl⟩
        · skip
          have hq : qcn (rLkB ρ a) a i := hc9.mp (Classical.byContradiction fun h => g5 (qB_f h))
          refine lv_aload_n hx hb dX8_look_148 rfl (lv_at hl 0 rfl) ?_
          refine q_get (C := RX8) (T := TX8) (N := 36) hx hb hts iRX8 hown hC.1 (hW.to rLV0) rfl 29 (by decide) (hts (.fieldLink RX8 81 "LogWeaveModel" "stands" "[J") (List.mem_of_getElem? (i := 11) (by decide +kernel))) rfl (v := .ref (bd 24 0)) rfl dX8_look_149 ?_
          refine lv_iconst (v := nI 4) hx hb dX8_look_152 (by decide) ?_
          refine lv_aload_n hx hb dX8_look_153 rfl (lv_at hl 0 rfl) ?_
          refine q_get (C := RX8) (T := TX8) (N := 36) hx hb hts iRX8 hown hC.1 (hW.to rLV0) rfl 24 (by decide) (hts (.fieldLink RX8 69 "LogWeaveModel" "firing" "[I") (List.mem_of_getElem? (i := 5) (by decide +kernel))) rfl (v := .ref (bd 20 0)) rfl dX8_look_154 ?_
          refine lv_iload_n hx hb dX8_look_157 rfl (lv_at hl 1 rfl) ?_
          refine r_iald hx hb hC.1 (hW.to rLV20) 1 rfl (i := a) (by omega) (by decide) (v := nI ((rLkS (rLkB ρ a) a i) 135 a)) rfl dX8_look_158 ?_
          refine q_ti (y := nI (rLkB ρ a 135 a)) (by rw [rLkS_r (by decide)]) ?_
          generalize hfe : rLkB ρ a 135 a = fa at hfa ⊢
          refine lv_imul hx hb dX8_look_159 ?_
          refine q_ti (pk_mul 4 fa) ?_
          refine lv_iload_n hx hb dX8_look_160 rfl (lv_at hl 2 rfl) ?_
          refine lv_bipush (v := nI 50) hx hb dX8_look_161 (by decide) ?_
          refine lv_idiv hx hb dX8_look_163 (by decide) ?_
          refine q_ti (pk_div (by omega) (by decide) (by decide)) ?_
          refine lv_iadd hx hb dX8_look_164 ?_
          refine q_ti (nI_add (4 * fa) (i / 50)) ?_
          refine lv_dup2_11 hx hb dX8_look_165 rfl rfl ?_
          refine r_lald hx hb hC.1 (hW.to rLV24) 2 rfl (i := ((4 * fa) + (i / 50))) (by omega) (by decide) (v := qbits ((rLkS (rLkB ρ a) a i) (1000 + fa)) 50 (i / 50)) (by show qbits ((rLkS (rLkB ρ a) a i) (1000 + ((4 * fa) + (i / 50)) / 4)) 50 (((4 * fa) + (i / 50)) % 4) = _; rw [show ((4 * fa) + (i / 50)) / 4 = fa by omega, show ((4 * fa) + (i / 50)) % 4 = i / 50 by omega]) dX8_look_166 ?_
          refine lv_lconst (v := 1) hx hb dX8_look_167 (by decide) ?_
          refine lv_iload_n hx hb dX8_look_168 rfl (lv_at hl 2 rfl) ?_
          refine lv_bipush (v := nI 50) hx hb dX8_look_169 (by decide) ?_
          refine lv_irem hx hb dX8_look_171 (by decide) ?_
          refine q_ti (pk_rem (by omega) (by decide) (by decide)) ?_
          refine lv_lshl hx hb dX8_look_172 rfl ?_
          refine lv_lor hx hb dX8_look_173 ?_
          refine q_last hx hb hC.1 (hW.to rLV24) (hW.in rLV24) hS 2 rfl (vp_in_nI (n := ((4 * fa) + (i / 50))) (by omega) (by decide)) dX8_look_174 (fun H1 locs hat hsz hoq hS => ?_)
          rw [nI_clamp (n := ((4 * fa) + (i / 50))) (by omega)] at hat
          rw [q_setbitR (rLkS (rLkB ρ a) a i) fa i (by omega)] at hat
          have hW := hW.upR (1000 + fa) i 1 (rKd_bits fa) rLV24 (rLV24 (ρ := qup (rLkS (rLkB ρ a) a i) (1000 + fa) i 1)) hat hoq
          refine lv_iinc (v := nI (i + 1)) (lv' := [(2, .int (nI (i + 1))), (0, .ref (bd 0 0)), (1, .int (nI a))]) hx hb dX8_look_175 hl (k := 2) rfl (nI_1 i) (by decide) rfl (fun ls hl => ?_)
          refine lv_goto (tgt := 131) hx hb dX8_look_178 (by decide) ?_
          exact ih _ _ ls ⟨(by rw [rLkS_yes hq, hfe]; exact hW), hS, lv_sub hl [1, 2, 0] rfl⟩
    · skip
      have hn4 := hn3 g2 (by omega)
      refine lv_aload_n hx hb dX8_look_71 rfl (lv_at hl 0 rfl) ?_
      refine q_get (C := RX8) (T := TX8) (N := 36) hx hb hts iRX8 hown hC.1 (hW.to rLV0) rfl 24 (by decide) (hts (.fieldLink RX8 69 "LogWeaveModel" "firing" "[I") (List.mem_of_getElem? (i := 5) (by decide +kernel))) rfl (v := .ref (bd 20 0)) rfl dX8_look_72 ?_
      refine lv_iload_n hx hb dX8_look_75 rfl (lv_at hl 1 rfl) ?_
      refine lv_aload_n hx hb dX8_look_76 rfl (lv_at hl 0 rfl) ?_
      refine q_get (C := RX8) (T := TX8) (N := 36) hx hb hts iRX8 hown hC.1 (hW.to rLV0) rfl 25 (by decide) (hts (.fieldLink RX8 117 "LogWeaveModel" "firings" "I") (List.mem_of_getElem? (i := 6) (by decide +kernel))) rfl (v := .int (nI (ρ 0 3))) rfl dX8_look_77 ?_
      refine q_iast hx hb hC.1 (hW.to rLV20) (hW.in rLV20) hS 1 rfl (vp_in_nI (n := a) (by omega) (by decide)) dX8_look_80 (fun H1 locs hat hsz hoq hS => ?_)
      rw [nI_clamp (n := a) (by omega)] at hat
      rw [r_upd ρ 135 a (ρ 0 3)] at hat
      have hW := hW.upR 135 a (ρ 0 3) rfl rLV20 (rLV20 (ρ := (qup ρ 135 a (ρ 0 3)))) hat hoq
      refine lv_aload_n hx hb dX8_look_81 rfl (lv_at hl 0 rfl) ?_
      refine q_get (C := RX8) (T := TX8) (N := 36) hx hb hts iRX8 hown hC.1 (hW.to rLV0) rfl 26 (by decide) (hts (.fieldLink RX8 72 "LogWeaveModel" "alertOf" "[I") (List.mem_of_getElem? (i := 7) (by decide +kernel))) rfl (v := .ref (bd 21 0)) rfl dX8_look_82 ?_
      refine lv_aload_n hx hb dX8_look_85 rfl (lv_at hl 0 rfl) ?_
      refine q_get (C := RX8) (T := TX8) (N := 36) hx hb hts iRX8 hown hC.1 (hW.to rLV0) rfl 25 (by decide) (hts (.fieldLink RX8 117 "LogWeaveModel" "firings" "I") (List.mem_of_getElem? (i := 6) (by decide +kernel))) rfl (v := .int (nI ((qup ρ 135 a (ρ 0 3)) 0 3))) rfl dX8_look_86 ?_
      refine q_ti (y := nI (ρ 0 3)) rfl ?_
      refine lv_iload_n hx hb dX8_look_89 rfl (lv_at hl 1 rfl) ?_
      refine q_iast hx hb hC.1 (hW.to rLV21) (hW.in rLV21) hS 1 rfl (vp_in_nI (n := (ρ 0 3)) (by omega) (by decide)) dX8_look_90 (fun H1 locs hat hsz hoq hS => ?_)
      rw [nI_clamp (n := (ρ 0 3)) (by omega)] at hat
      rw [r_upd (qup ρ 135 a (ρ 0 3)) 160 (ρ 0 3) a] at hat
      have hW := hW.upR 160 (ρ 0 3) a rfl rLV21 (rLV21 (ρ := (qup (qup ρ 135 a (ρ 0 3)) 160 (ρ 0 3) a))) hat hoq
      refine lv_aload_n hx hb dX8_look_91 rfl (lv_at hl 0 rfl) ?_
      refine q_get (C := RX8) (T := TX8) (N := 36) hx hb hts iRX8 hown hC.1 (hW.to rLV0) rfl 27 (by decide) (hts (.fieldLink RX8 75 "LogWeaveModel" "firedAt" "[I") (List.mem_of_getElem? (i := 8) (by decide +kernel))) rfl (v := .ref (bd 22 0)) rfl dX8_look_92 ?_
      refine lv_aload_n hx hb dX8_look_95 rfl (lv_at hl 0 rfl) ?_
      refine q_get (C := RX8) (T := TX8) (N := 36) hx hb hts iRX8 hown hC.1 (hW.to rLV0) rfl 25 (by decide) (hts (.fieldLink RX8 117 "LogWeaveModel" "firings" "I") (List.mem_of_getElem? (i := 6) (by decide +kernel))) rfl (v := .int (nI ((qup (qup ρ 135 a (ρ 0 3)) 160 (ρ 0 3) a) 0 3))) rfl dX8_look_96 ?_
      refine q_ti (y := nI (ρ 0 3)) rfl ?_
      refine lv_aload_n hx hb dX8_look_99 rfl (lv_at hl 0 rfl) ?_
      refine q_get (C := RX8) (T := TX8) (N := 36) hx hb hts iRX8 hown hC.1 (hW.to rLV0) rfl 1 (by decide) (hts (.fieldLink RX8 132 "LogWeaveModel" "tick" "I") (List.mem_of_getElem? (i := 9) (by decide +kernel))) rfl (v := .int (nI ((qup (qup ρ 135 a (ρ 0 3)) 160 (ρ 0 3) a) 1 0))) rfl dX8_look_100 ?_
      refine q_ti (y := nI (ρ 1 0)) rfl ?_
      refine q_iast hx hb hC.1 (hW.to rLV22) (hW.in rLV22) hS 1 rfl (vp_in_nI (n := (ρ 0 3)) (by omega) (by decide)) dX8_look_103 (fun H1 locs hat hsz hoq hS => ?_)
      rw [nI_clamp (n := (ρ 0 3)) (by omega)] at hat
      rw [r_upd (qup (qup ρ 135 a (ρ 0 3)) 160 (ρ 0 3) a) 161 (ρ 0 3) (ρ 1 0)] at hat
      have hW := hW.upR 161 (ρ 0 3) (ρ 1 0) rfl rLV22 (rLV22 (ρ := (qup (qup (qup ρ 135 a (ρ 0 3)) 160 (ρ 0 3) a) 161 (ρ 0 3) (ρ 1 0)))) hat hoq
      refine lv_aload_n hx hb dX8_look_104 rfl (lv_at hl 0 rfl) ?_
      refine lv_dup hx hb dX8_look_105 rfl ?_
      refine q_get (C := RX8) (T := TX8) (N := 36) hx hb hts iRX8 hown hC.1 (hW.to rLV0) rfl 25 (by decide) (hts (.fieldLink RX8 117 "LogWeaveModel" "firings" "I") (List.mem_of_getElem? (i := 6) (by decide +kernel))) rfl (v := .int (nI ((qup (qup (qup ρ 135 a (ρ 0 3)) 160 (ρ 0 3) a) 161 (ρ 0 3) (ρ 1 0)) 0 3))) rfl dX8_look_106 ?_
      refine q_ti (y := nI (ρ 0 3)) rfl ?_
      refine lv_iconst (v := nI 1) hx hb dX8_look_109 (by decide) ?_
      refine lv_iadd hx hb dX8_look_110 ?_
      refine q_ti (nI_add (ρ 0 3) 1) ?_
      refine q_put (C := RX8) (T := TX8) (N := 36) (ty := .int) (v := .int (nI ((ρ 0 3) + 1))) hx hb hts iRX8 tyX8 tyX8_ok nmX8 hown hC.1 (hW.to rLV0) (hW.in rLV0) hS rfl 25 (by decide) (hts (.fieldLink RX8 117 "LogWeaveModel" "firings" "I") (List.mem_of_getElem? (i := 6) (by decide +kernel))) rfl rfl (by decide +kernel) rfl rfl (Nat.le_of_ble_eq_true rfl) dX8_look_111 (fun H1 locs hat hsz hoq hS => ?_)
      have hW := hW.upR 0 3 ((ρ 0 3) + 1) rfl rLV0 ((rLV0 (ρ := (qup (qup (qup (qup ρ 135 a (ρ 0 3)) 160 (ρ 0 3) a) 161 (ρ 0 3) (ρ 1 0)) 0 3 ((ρ 0 3) + 1)))).trans (by rw [qup_s]; rfl)) hat hoq
      have hW : rW G A (rLkN ρ a) bd _ := (by rw [rLkN, if_pos g2]; exact hW)
      refine lv_aload_n hx hb dX8_look_114 rfl (lv_at hl 0 rfl) ?_
      refine q_get (C := RX8) (T := TX8) (N := 36) hx hb hts iRX8 hown hC.1 (hW.to rLV0) rfl 22 (by decide) (hts (.fieldLink RX8 63 "LogWeaveModel" "alert" "[C") (List.mem_of_getElem? (i := 2) (by decide +kernel))) rfl (v := .ref (bd 18 0)) rfl dX8_look_115 ?_
      refine lv_iload_n hx hb dX8_look_118 rfl (lv_at hl 1 rfl) ?_
      refine lv_bipush (v := nI 102) hx hb dX8_look_119 (by decide) ?_
      refine q_cast hx hb hC.1 (hW.to rLV18) (hW.in rLV18) hS 3 rfl (vp_in_nI (n := a) (by omega) (by decide)) dX8_look_121 (fun H1 locs hat hsz hoq hS => ?_)
      rw [nI_clamp (n := a) (by omega)] at hat
      rw [show vp_nar .char (nI 102) = nI 102 from by decide] at hat
      rw [r_upd (rLkN ρ a) 131 a 102] at hat
      have hW := hW.upR 131 a 102 rfl rLV18 (rLV18 (ρ := (qup (rLkN ρ a) 131 a 102))) hat hoq
      refine lv_aload_n hx hb dX8_look_122 rfl (lv_at hl 0 rfl) ?_
      refine q_get (C := RX8) (T := TX8) (N := 36) hx hb hts iRX8 hown hC.1 (hW.to rLV0) rfl 23 (by decide) (hts (.fieldLink RX8 66 "LogWeaveModel" "left" "[I") (List.mem_of_getElem? (i := 4) (by decide +kernel))) rfl (v := .ref (bd 19 0)) rfl dX8_look_123 ?_
      refine lv_iload_n hx hb dX8_look_126 rfl (lv_at hl 1 rfl) ?_
      refine lv_iconst (v := nI 0) hx hb dX8_look_127 (by decide) ?_
      refine q_iast hx hb hC.1 (hW.to rLV19) (hW.in rLV19) hS 1 rfl (vp_in_nI (n := a) (by omega) (by decide)) dX8_look_128 (fun H1 locs hat hsz hoq hS => ?_)
      rw [nI_clamp (n := a) (by omega)] at hat
      rw [r_upd (qup (rLkN ρ a) 131 a 102) 133 a 0] at hat
      have hW := hW.upR 133 a 0 rfl rLV19 (rLV19 (ρ := (qup (qup (rLkN ρ a) 131 a 102) 133 a 0))) hat hoq
      have hW : rW G A (rLkB ρ a) bd _ := hW
      obtain ⟨hFB, hfa⟩ := rLkB_rwf hF ha (fun z => hn3 z (by omega))
      have h00 : rLkB ρ a 0 0 = ρ 0 0 := rLkB_0 (by decide)
      have h02 : rLkB ρ a 0 2 = ρ 0 2 := rLkB_0 (by decide)
      have hnB := hFB.n
      have h3B := (hFB.al (a := a) (by omega)).1
      refine lv_iconst (v := nI 0) hx hb dX8_look_129 (by decide) ?_
      refine lv_istore_n (lv' := [(2, .int (nI 0)), (0, .ref (bd 0 0)), (1, .int (nI a))]) hx hb dX8_look_130 rfl hl (by decide) rfl (fun ls hl => ?_)
      refine q_up (ρ 0 0) (fun i H locs ls => rW G A (rLkS (rLkB ρ a) a i) bd H ∧ va_S A s.heap H locs ∧ lv_has ls 3 [(0, .ref (bd 0 0)), (1, .int (nI a)), (2, .int (nI i))]) ?_ ?_ (i0 := 0) (Nat.zero_le _) ⟨(by rw [rLkS_0]; exact hW), hS, lv_sub hl [1, 2, 0] rfl⟩
      · rintro H locs ls ⟨hW, hS, hl⟩
        refine lv_iload_n hx hb dX8_look_131 rfl (lv_at hl 2 rfl) ?_
        refine lv_aload_n hx hb dX8_look_132 rfl (lv_at hl 0 rfl) ?_
        refine q_get (C := RX8) (T := TX8) (N := 36) hx hb hts iRX8 hown hC.1 (hW.to rLV0) rfl 2 (by decide) (hts (.fieldLink RX8 104 "LogWeaveModel" "lines" "I") (List.mem_of_getElem? (i := 10) (by decide +kernel))) rfl (v := .int (nI ((rLkS (rLkB ρ a) a (ρ 0 0)) 0 0))) rfl dX8_look_133 ?_
        refine q_ti (y := nI (ρ 0 0)) (by rw [rLkS_r (by decide), h00]) ?_
        refine q_ge (tgt := 181) hx hb (q31 (hB _ _)) (q31 (hB _ _)) dX8_look_136 (by decide) (fun g6 => ?_) (fun g6 => (by omega))
        exact W.vret hx hb hr (fun t ht _ => ⟨rfl, by rw [ht]; exact (by rw [rLk, if_neg hge]; exact hW), hS.F ht⟩) hS.2.2 dX8_look_181
      · rintro i H locs ls hi ⟨hW, hS, hl⟩ ih
        have hFi := rLkS_rwf hFB a i
        have hc9 : qcn (rLkS (rLkB ρ a) a i) a i ↔ qcn (rLkB ρ a) a i := qcn_congr h3B (fun r j h => rLkS_r h)
        refine lv_iload_n hx hb dX8_look_131 rfl (lv_at hl 2 rfl) ?_
        refine lv_aload_n hx hb dX8_look_132 rfl (lv_at hl 0 rfl) ?_
        refine q_get (C := RX8) (T := TX8) (N := 36) hx hb hts iRX8 hown hC.1 (hW.to rLV0) rfl 2 (by decide) (hts (.fieldLink RX8 104 "LogWeaveModel" "lines" "I") (List.mem_of_getElem? (i := 10) (by decide +kernel))) rfl (v := .int (nI ((rLkS (rLkB ρ a) a i) 0 0))) rfl dX8_look_133 ?_
        refine q_ti (y := nI (ρ 0 0)) (by rw [rLkS_r (by decide), h00]) ?_
        refine q_ge (tgt := 181) hx hb (by omega) (q31 (hB _ _)) dX8_look_136 (by decide) (fun g7 => (by omega)) (fun g7 => ?_)
        refine lv_aload_n hx hb dX8_look_139 rfl (lv_at hl 0 rfl) ?_
        refine lv_iload_n hx hb dX8_look_140 rfl (lv_at hl 1 rfl) ?_
        refine lv_iload_n hx hb dX8_look_141 rfl (lv_at hl 2 rfl) ?_
        refine q_v (va_runV (As := [.int (nI a), .int (nI i)]) (rest := []) ⟨hx, hb, hml, hown, hts⟩ (m_rcounts l G A (rLkS (rLkB ρ a) a i) bd hFi a i (by rw [rLkS_r (by decide), h02]; exact ha) (by rw [rLkS_r (by decide), h00]; exact hi)) (cwV 2 hts gX8_look_X8_counts rfl rfl rfl (by decide +kernel) ⟨Nat.le_of_ble_eq_true rfl, Nat.le_of_ble_eq_true rfl⟩) ⟨rR.blind, qrecv hC (hW.to rLV0) rfl, rR.pre hC hW⟩ rfl rfl hl.1 rfl (lv_room (Nat.le_of_ble_eq_true rfl)) dX8_look_142 ⟨Nat.le_of_ble_eq_true rfl, Nat.le_of_ble_eq_true rfl⟩) hS (fun _ h => h.elim) (fun locs hS => ?_)
        refine q_eq0 (tgt := 175) hx hb q_31B dX8_look_145 (by decide) (fun g8 => ?_) (fun g8 => ?_)
        · skip
          have hq : ¬ qcn (rLkB ρ a) a i := fun h => by rw [qB_t (hc9.mpr h)] at g8; exact absurd g8 (by decide)
          refine lv_iinc (v := nI (i + 1)) (lv' := [(2, .int (nI (i + 1))), (0, .ref (bd 0 0)), (1, .int (nI a))]) hx hb dX8_look_175 hl (k := 2) rfl (nI_1 i) (by decide) rfl (fun ls hl => ?_)
          refine lv_goto (tgt := 131) hx hb dX8_look_178 (by decide) ?_
          exact ih _ _ ls ⟨(by rw [rLkS_no hq]; exact hW), hS, lv_sub hl [1, 2, 0] rfl⟩
        · skip
          have hq : qcn (rLkB ρ a) a i := hc9.mp (Classical.byContradiction fun h => g8 (qB_f h))
          refine lv_aload_n hx hb dX8_look_148 rfl (lv_at hl 0 rfl) ?_
          refine q_get (C := RX8) (T := TX8) (N := 36) hx hb hts iRX8 hown hC.1 (hW.to rLV0) rfl 29 (by decide) (hts (.fieldLink RX8 81 "LogWeaveModel" "stands" "[J") (List.mem_of_getElem? (i := 11) (by decide +kernel))) rfl (v := .ref (bd 24 0)) rfl dX8_look_149 ?_
          refine lv_iconst (v := nI 4) hx hb dX8_look_152 (by decide) ?_
          refine lv_aload_n hx hb dX8_look_153 rfl (lv_at hl 0 rfl) ?_
          refine q_get (C := RX8) (T := TX8) (N := 36) hx hb hts iRX8 hown hC.1 (hW.to rLV0) rfl 24 (by decide) (hts (.fieldLink RX8 69 "LogWeaveModel" "firing" "[I") (List.mem_of_getElem? (i := 5) (by decide +kernel))) rfl (v := .ref (bd 20 0)) rfl dX8_look_154 ?_
          refine lv_iload_n hx hb dX8_look_157 rfl (lv_at hl 1 rfl) ?_
          refine r_iald hx hb hC.1 (hW.to rLV20) 1 rfl (i := a) (by omega) (by decide) (v := nI ((rLkS (rLkB ρ a) a i) 135 a)) rfl dX8_look_158 ?_
          refine q_ti (y := nI (rLkB ρ a 135 a)) (by rw [rLkS_r (by decide)]) ?_
          generalize hfe : rLkB ρ a 135 a = fa at hfa ⊢
          refine lv_imul hx hb dX8_look_159 ?_
          refine q_ti (pk_mul 4 fa) ?_
          refine lv_iload_n hx hb dX8_look_160 rfl (lv_at hl 2 rfl) ?_
          refine lv_bipush (v := nI 50) hx hb dX8_look_161 (by decide) ?_
          refine lv_idiv hx hb dX8_look_163 (by decide) ?_
          refine q_ti (pk_div (by omega) (by decide) (by decide)) ?_
          refine lv_iadd hx hb dX8_look_164 ?_
          refine q_ti (nI_add (4 * fa) (i / 50)) ?_
          refine lv_dup2_11 hx hb dX8_look_165 rfl rfl ?_
          refine r_lald hx hb hC.1 (hW.to rLV24) 2 rfl (i := ((4 * fa) + (i / 50))) (by omega) (by decide) (v := qbits ((rLkS (rLkB ρ a) a i) (1000 + fa)) 50 (i / 50)) (by show qbits ((rLkS (rLkB ρ a) a i) (1000 + ((4 * fa) + (i / 50)) / 4)) 50 (((4 * fa) + (i / 50)) % 4) = _; rw [show ((4 * fa) + (i / 50)) / 4 = fa by omega, show ((4 * fa) + (i / 50)) % 4 = i / 50 by omega]) dX8_look_166 ?_
          refine lv_lconst (v := 1) hx hb dX8_look_167 (by decide) ?_
          refine lv_iload_n hx hb dX8_look_168 rfl (lv_at hl 2 rfl) ?_
          refine lv_bipush (v := nI 50) hx hb dX8_look_169 (by decide) ?_
          refine lv_irem hx hb dX8_look_171 (by decide) ?_
          refine q_ti (pk_rem (by omega) (by decide) (by decide)) ?_
          refine lv_lshl hx hb dX8_look_172 rfl ?_
          refine lv_lor hx hb dX8_look_173 ?_
          refine q_last hx hb hC.1 (hW.to rLV24) (hW.in rLV24) hS 2 rfl (vp_in_nI (n := ((4 * fa) + (i / 50))) (by omega) (by decide)) dX8_look_174 (fun H1 locs hat hsz hoq hS => ?_)
          rw [nI_clamp (n := ((4 * fa) + (i / 50))) (by omega)] at hat
          rw [q_setbitR (rLkS (rLkB ρ a) a i) fa i (by omega)] at hat
          have hW := hW.upR (1000 + fa) i 1 (rKd_bits fa) rLV24 (rLV24 (ρ := qup (rLkS (rLkB ρ a) a i) (1000 + fa) i 1)) hat hoq
          refine lv_iinc (v := nI (i + 1)) (lv' := [(2, .int (nI (i + 1))), (0, .ref (bd 0 0)), (1, .int (nI a))]) hx hb dX8_look_175 hl (k := 2) rfl (nI_1 i) (by decide) rfl (fun ls hl => ?_)
          refine lv_goto (tgt := 131) hx hb dX8_look_178 (by decide) ?_
          exact ih _ _ ls ⟨(by rw [rLkS_yes hq, hfe]; exact hW), hS, lv_sub hl [1, 2, 0] rfl⟩
  · skip
    refine lv_aload_n hx hb dX8_look_14 rfl (lv_at hl 0 rfl) ?_
    refine q_get (C := RX8) (T := TX8) (N := 36) hx hb hts iRX8 hown hC.1 (hW.to rLV0) rfl 22 (by decide) (hts (.fieldLink RX8 63 "LogWeaveModel" "alert" "[C") (List.mem_of_getElem? (i := 2) (by decide +kernel))) rfl (v := .ref (bd 18 0)) rfl dX8_look_15 ?_
    refine lv_iload_n hx hb dX8_look_18 rfl (lv_at hl 1 rfl) ?_
    refine r_cald hx hb hC.1 (hW.to rLV18) 3 rfl (i := a) (by omega) (by decide) (v := nI (ρ 131 a)) rfl dX8_look_19 ?_
    refine lv_bipush (v := nI 102) hx hb dX8_look_20 (by decide) ?_
    refine q_ne (tgt := 59) hx hb (q31 (hB _ _)) (by decide) dX8_look_22 (by decide) (fun g9 => ?_) (fun g9 => ?_)
    · skip
      exact W.vret hx hb hr (fun t ht _ => ⟨rfl, by rw [ht]; exact (by rw [rLk, if_pos g1, rLkA, if_neg g9]; exact hW), hS.F ht⟩) hS.2.2 dX8_look_59
    · skip
      refine lv_aload_n hx hb dX8_look_25 rfl (lv_at hl 0 rfl) ?_
      refine q_get (C := RX8) (T := TX8) (N := 36) hx hb hts iRX8 hown hC.1 (hW.to rLV0) rfl 22 (by decide) (hts (.fieldLink RX8 63 "LogWeaveModel" "alert" "[C") (List.mem_of_getElem? (i := 2) (by decide +kernel))) rfl (v := .ref (bd 18 0)) rfl dX8_look_26 ?_
      refine lv_iload_n hx hb dX8_look_29 rfl (lv_at hl 1 rfl) ?_
      refine lv_aload_n hx hb dX8_look_30 rfl (lv_at hl 0 rfl) ?_
      refine q_get (C := RX8) (T := TX8) (N := 36) hx hb hts iRX8 hown hC.1 (hW.to rLV0) rfl 21 (by decide) (hts (.fieldLink RX8 60 "LogWeaveModel" "hold" "[I") (List.mem_of_getElem? (i := 3) (by decide +kernel))) rfl (v := .ref (bd 17 0)) rfl dX8_look_31 ?_
      refine lv_iload_n hx hb dX8_look_34 rfl (lv_at hl 1 rfl) ?_
      refine r_iald hx hb hC.1 (hW.to rLV17) 1 rfl (i := a) (by omega) (by decide) (v := nI (ρ 130 a)) rfl dX8_look_35 ?_
      refine q_ne0 (tgt := 44) hx hb (q31 (hB _ _)) dX8_look_36 (by decide) (fun g10 => ?_) (fun g10 => ?_)
      · skip
        refine lv_bipush (v := nI 104) hx hb dX8_look_44 (by decide) ?_
        refine q_cast hx hb hC.1 (hW.to rLV18) (hW.in rLV18) hS 3 rfl (vp_in_nI (n := a) (by omega) (by decide)) dX8_look_46 (fun H1 locs hat hsz hoq hS => ?_)
        rw [nI_clamp (n := a) (by omega)] at hat
        rw [show vp_nar .char (nI 104) = nI 104 from by decide] at hat
        rw [r_upd ρ 131 a 104] at hat
        have hW := hW.upR 131 a 104 rfl rLV18 (rLV18 (ρ := (qup ρ 131 a 104))) hat hoq
        refine lv_aload_n hx hb dX8_look_47 rfl (lv_at hl 0 rfl) ?_
        refine q_get (C := RX8) (T := TX8) (N := 36) hx hb hts iRX8 hown hC.1 (hW.to rLV0) rfl 23 (by decide) (hts (.fieldLink RX8 66 "LogWeaveModel" "left" "[I") (List.mem_of_getElem? (i := 4) (by decide +kernel))) rfl (v := .ref (bd 19 0)) rfl dX8_look_48 ?_
        refine lv_iload_n hx hb dX8_look_51 rfl (lv_at hl 1 rfl) ?_
        refine lv_aload_n hx hb dX8_look_52 rfl (lv_at hl 0 rfl) ?_
        refine q_get (C := RX8) (T := TX8) (N := 36) hx hb hts iRX8 hown hC.1 (hW.to rLV0) rfl 21 (by decide) (hts (.fieldLink RX8 60 "LogWeaveModel" "hold" "[I") (List.mem_of_getElem? (i := 3) (by decide +kernel))) rfl (v := .ref (bd 17 0)) rfl dX8_look_53 ?_
        refine lv_iload_n hx hb dX8_look_56 rfl (lv_at hl 1 rfl) ?_
        refine r_iald hx hb hC.1 (hW.to rLV17) 1 rfl (i := a) (by omega) (by decide) (v := nI ((qup ρ 131 a 104) 130 a)) rfl dX8_look_57 ?_
        refine q_iast hx hb hC.1 (hW.to rLV19) (hW.in rLV19) hS 1 rfl (vp_in_nI (n := a) (by omega) (by decide)) dX8_look_58 (fun H1 locs hat hsz hoq hS => ?_)
        rw [nI_clamp (n := a) (by omega)] at hat
        rw [r_upd (qup ρ 131 a 104) 133 a ((qup ρ 131 a 104) 130 a)] at hat
        have hW := hW.upR 133 a ((qup ρ 131 a 104) 130 a) rfl rLV19 (rLV19 (ρ := (qup (qup ρ 131 a 104) 133 a ((qup ρ 131 a 104) 130 a)))) hat hoq
        exact W.vret hx hb hr (fun t ht _ => ⟨rfl, by rw [ht]; exact (by rw [rLk, if_pos g1, rLkA, if_pos g9, if_neg g10]; exact hW), hS.F ht⟩) hS.2.2 dX8_look_59
      · skip
        refine lv_bipush (v := nI 113) hx hb dX8_look_39 (by decide) ?_
        refine lv_goto (tgt := 46) hx hb dX8_look_41 (by decide) ?_
        refine q_cast hx hb hC.1 (hW.to rLV18) (hW.in rLV18) hS 3 rfl (vp_in_nI (n := a) (by omega) (by decide)) dX8_look_46 (fun H1 locs hat hsz hoq hS => ?_)
        rw [nI_clamp (n := a) (by omega)] at hat
        rw [show vp_nar .char (nI 113) = nI 113 from by decide] at hat
        rw [r_upd ρ 131 a 113] at hat
        have hW := hW.upR 131 a 113 rfl rLV18 (rLV18 (ρ := (qup ρ 131 a 113))) hat hoq
        refine lv_aload_n hx hb dX8_look_47 rfl (lv_at hl 0 rfl) ?_
        refine q_get (C := RX8) (T := TX8) (N := 36) hx hb hts iRX8 hown hC.1 (hW.to rLV0) rfl 23 (by decide) (hts (.fieldLink RX8 66 "LogWeaveModel" "left" "[I") (List.mem_of_getElem? (i := 4) (by decide +kernel))) rfl (v := .ref (bd 19 0)) rfl dX8_look_48 ?_
        refine lv_iload_n hx hb dX8_look_51 rfl (lv_at hl 1 rfl) ?_
        refine lv_aload_n hx hb dX8_look_52 rfl (lv_at hl 0 rfl) ?_
        refine q_get (C := RX8) (T := TX8) (N := 36) hx hb hts iRX8 hown hC.1 (hW.to rLV0) rfl 21 (by decide) (hts (.fieldLink RX8 60 "LogWeaveModel" "hold" "[I") (List.mem_of_getElem? (i := 3) (by decide +kernel))) rfl (v := .ref (bd 17 0)) rfl dX8_look_53 ?_
        refine lv_iload_n hx hb dX8_look_56 rfl (lv_at hl 1 rfl) ?_
        refine r_iald hx hb hC.1 (hW.to rLV17) 1 rfl (i := a) (by omega) (by decide) (v := nI ((qup ρ 131 a 113) 130 a)) rfl dX8_look_57 ?_
        refine q_iast hx hb hC.1 (hW.to rLV19) (hW.in rLV19) hS 1 rfl (vp_in_nI (n := a) (by omega) (by decide)) dX8_look_58 (fun H1 locs hat hsz hoq hS => ?_)
        rw [nI_clamp (n := a) (by omega)] at hat
        rw [r_upd (qup ρ 131 a 113) 133 a ((qup ρ 131 a 113) 130 a)] at hat
        have hW := hW.upR 133 a ((qup ρ 131 a 113) 130 a) rfl rLV19 (rLV19 (ρ := (qup (qup ρ 131 a 113) 133 a ((qup ρ 131 a 113) 130 a)))) hat hoq
        exact W.vret hx hb hr (fun t ht _ => ⟨rfl, by rw [ht]; exact (by rw [rLk, if_pos g1, rLkA, if_pos g9, if_pos g10]; exact hW), hS.F ht⟩) hS.2.2 dX8_look_59
