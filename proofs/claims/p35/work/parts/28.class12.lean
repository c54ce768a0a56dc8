/-! adding: the state behind it -/
def qad (σ : QSt) (J : Nat) (L : List (Nat × Nat)) : QSt := qgr (qups σ (σ 0 J) L) J
theorem qups_rng {σ : QSt} {c lo hi : Nat} {L : List (Nat × Nat)} {r j : Nat} (ha : L.all (fun x => decide (lo ≤ x.1) && decide (x.1 < hi)) = true) (h : ¬ (lo ≤ r ∧ r < hi ∧ j = c)) : qups σ c L r j = σ r j :=
  qups_k fun hj x hx z => by
    have h1 := List.all_eq_true.mp ha x hx
    rw [Bool.and_eq_true, decide_eq_true_eq, decide_eq_true_eq] at h1
    omega
theorem qups_in {σ : QSt} {c r v : Nat} : ∀ {L : List (Nat × Nat)}, L.find? (fun x => x.1 == r) = some (r, v) → qups σ c L r c = v
  | [], h => by cases h
  | x :: L, h => by
    show (if r = x.1 ∧ c = c then x.2 else qups σ c L r c) = v
    rw [List.find?_cons] at h
    by_cases z : r = x.1
    · rw [if_pos ⟨z, rfl⟩]
      rw [show (x.1 == r) = true from by rw [z]; exact beq_self_eq_true _] at h
      cases h
      rfl
    · rw [if_neg (fun y => z y.1)]
      rw [show (x.1 == r) = false from beq_false_of_ne (Ne.symm z)] at h
      exact qups_in h
theorem qad_lo {σ : QSt} {J : Nat} {L : List (Nat × Nat)} (ha : L.all (fun x => decide (64 + 32 * J ≤ x.1) && decide (x.1 < 96 + 32 * J)) = true) {r j : Nat} (h : r < 64) : qups σ (σ 0 J) L r j = σ r j := qups_rng ha (by omega)
theorem qad_0 {σ : QSt} {J : Nat} {L : List (Nat × Nat)} (ha : L.all (fun x => decide (64 + 32 * J ≤ x.1) && decide (x.1 < 96 + 32 * J)) = true) : qad σ J L 0 J = σ 0 J + 1 := by unfold qad; rw [qgr_0, qad_lo ha (by decide)]
theorem qad_16 {σ : QSt} {J : Nat} {L : List (Nat × Nat)} (ha : L.all (fun x => decide (64 + 32 * J ≤ x.1) && decide (x.1 < 96 + 32 * J)) = true) : qad σ J L 16 J = σ 16 J + 1 := by unfold qad; rw [qgr_16, qad_lo ha (by decide)]
theorem qad_32 {σ : QSt} {J : Nat} {L : List (Nat × Nat)} (ha : L.all (fun x => decide (64 + 32 * J ≤ x.1) && decide (x.1 < 96 + 32 * J)) = true) : qad σ J L 32 J = qcap (σ 0 J) (σ 32 J) := by unfold qad; rw [qgr_32, qad_lo ha (by decide), qad_lo ha (by decide)]
theorem qad_r {σ : QSt} {J : Nat} {L : List (Nat × Nat)} (ha : L.all (fun x => decide (64 + 32 * J ≤ x.1) && decide (x.1 < 96 + 32 * J)) = true) {r j : Nat} (h1 : ¬ (64 + 32 * J ≤ r ∧ r < 96 + 32 * J ∧ j = σ 0 J)) (h2 : ¬ ((r = 0 ∨ r = 16 ∨ r = 32) ∧ j = J)) : qad σ J L r j = σ r j := by
  unfold qad
  rw [qgr_k h2, qups_rng ha h1]
theorem qad_in {σ : QSt} {J : Nat} {L : List (Nat × Nat)} {r v : Nat} (h : L.find? (fun x => x.1 == r) = some (r, v)) (hr : 64 ≤ r) : qad σ J L r (σ 0 J) = v := by
  unfold qad
  rw [qgr_k (by omega), qups_in h]
/-- addresses of what was there stay -/
def qAE (σ ad ad' : QSt) : Prop := ∀ k j, k ≠ 2 → (4 ≤ k → j < σ 0 ((k - 4) / 2)) → ad' k j = ad k j
theorem qAE.pend {σ ad : QSt} {J v w q : Nat} : qAE σ ad (qup (qup (qup ad (4 + 2 * J) (σ 0 J) v) (5 + 2 * J) (σ 0 J) w) 2 J q) := by
  intro k j h1 h2
  simp only [qup]
  rw [if_neg (fun z => h1 z.1), if_neg (fun z => by have h3 := h2 (by omega); rw [show (k - 4) / 2 = J by omega] at h3; omega), if_neg (fun z => by have h3 := h2 (by omega); rw [show (k - 4) / 2 = J by omega] at h3; omega)]
theorem qAE.rf {σ ad : QSt} : qAE σ ad ad := fun _ _ _ _ => rfl
theorem qAE.trans {σ τ a1 a2 a3 : QSt} (h1 : qAE σ a1 a2) (h2 : qAE τ a2 a3) (h : ∀ J, σ 0 J ≤ τ 0 J) : qAE σ a1 a3 := fun k j n1 n2 => (h2 k j n1 (fun z => Nat.lt_of_lt_of_le (n2 z) (h _))).trans (h1 k j n1 n2)
section QADR
variable {p : Program} {l : Launch} {e : Env} {R : Room} {s : State} {m : MethodId} {args : Array Value} {below : List Frame} {meth : Method} {c : Code} {H : Heap} {locs : List Loc} {cells slots : Nat} {Q : State → Prop}
variable {cc : ByteArray} {pc : Nat} {ls : Array Slot} {rest st0 : List Value} {D : va_G} {cl : List vw_C} {A A0 A1 : Nat → Prop} {a : Nat} {tys : List (ClassId × FieldType)} {H0 : Heap} {mc ms : Nat} {free : Addr → Prop} {av : Array Value}
theorem q_ad {G : QG} {σ ad : QSt} {J v : Nat} (hr : va_Run p l e R s m args below meth c H locs cells slots mc ms (F0 m pc ls st0) rest (qAdQ G A1 σ ad J v av) free) (hS : va_S A0 H0 H locs) (hA : ∀ q, A1 q → A0 q) (hf : ∀ q, free q → A0 q)
    (kk : ∀ (H1 : Heap) (locs1 : List Loc), qAdP G σ ad J v H H1 → H.size ≤ H1.size → va_S A0 H0 H1 locs1 → W p l e R s m args below meth c H1 locs1 (cells + mc) (slots + ms) Q (F0 m (pc + 3) ls (.int (nI 1) :: rest))) : W p l e R s m args below meth c H locs cells slots Q (F0 m pc ls st0) := by
  intro T hT X
  obtain ⟨v', st₀, t, T', L, h0, X', hL, e1, e2, ⟨hv, hp, hz, hk⟩, st⟩ := hr T hT X
  cases hv
  rw [h0] at hp hz hk
  obtain ⟨t2, a1, b1⟩ := kk t.heap (locs ++ L) hp hz (q_locs hS hf hL hz (fun q h1 h2 => hk q h1 (fun z => h2 (hA q z)))) T' e1 X'
  exact ⟨t2, st t2 a1, b1⟩
end QADR
theorem q_kept1 {G : QG} {es : Nat} {A : Nat → Prop} {σ ad : QSt} {H H1 : Heap} (h : qLW G es A σ ad H) (hk : ∀ q, q < H.size → H1[q]? = H[q]?) : qLW G es A σ ad H1 := qPW.kept h (fun _ _ _ he => hk _ (h.to he).lt)
theorem q_kept2 {G : QG} {es : Nat} {A : Nat → Prop} {σ ad : QSt} {H H1 : Heap} {v : Nat} (h : qLW G es A σ ad H) (hv : ¬ qlive (qLV G es σ ad) ad v) (hk : ∀ q, q < H.size → ¬ q = v → H1[q]? = H[q]?) : qLW G es A σ ad H1 := qPW.kept h (fun k j e he => hk _ (h.to he).lt (fun z => hv ⟨k, j, e, he, z⟩))
theorem q_nolive {G : QG} {es : Nat} {A : Nat → Prop} {σ ad : QSt} {H : Heap} {q : Nat} (h : qLW G es A σ ad H) (hq : H.size ≤ q) : ¬ qlive (qLV G es σ ad) ad q := fun z => by have := qPW.lt h z; omega
def qfLe (σ : QSt) (s0 x1 x2 x3 : Nat) : QSt := qad σ 1 [(96, s0), (97, 0), (112, x1 + 1), (113, x2 + 1), (114, x3 + 1)]

set_option maxHeartbeats 4000000 in
set_option maxRecDepth 100000 in
theorem m_learn (l : Launch) (G : QG) (es : Nat) (A : Nat → Prop) (σ ad : QSt) (hF : qWF σ) (s0 u x1 x2 x3 : Nat) (hn1 : σ 0 1 < 200) (hb0 : s0 < 4) (hx9 : x1 < 100 ∧ x2 < 100 ∧ x3 < 100) (ms : Nat) (hms : σ 0 1 < σ 32 1 ∨ qcap (σ 0 1) (σ 32 1) ≤ ms) : Met l yX7_learn wsX7_learn ({ frames := 7, cells := 3, slots := (7 + ms), locals := 171 } : Room) (qWv G es A σ ad u (.inr (9, [.int (nI x1), .int (nI x2), .int (nI x3)])) [.ref (ad 0 0), .int (nI s0), .ref (u)]) (qWX (fun x H1 => ∃ ad', qAE σ ad ad' ∧ ad' 6 (σ 0 1) = x ∧ qLW G es A (qfLe σ s0 x1 x2 x3) ad' H1 ∧ va_at G.1 vwCl (u, .inr (9, [.int (nI x1), .int (nI x2), .int (nI x3)])) H1 ∧ ¬ qlive (qLV G es (qfLe σ s0 x1 x2 x3) ad') ad' u) A) 3 (7 + ms) A := by
  refine Met.ofW (cc := cX7_learn) (maxL := 5) (ret := (some (.object "LogWeave$Pattern"))) (by decide) rfl ?_
  intro p e s m args below meth c s₁ B hml hv
  obtain ⟨rfl, hC, hW, hu, hul, hZ, hA⟩ := hv
  have hx := B.exec
  have hb := B.bytes
  have hr := B.returns
  have hts := atoms_spec (ws := wsX7_learn) B.pre
  have hown : s.vm.findClass RX7 = some m.cls := findClass_of_methodNamed B.named
  have hlocks := B.notSynchronized
  have hB := hF.1
  have hn := hF.n
  have hS : va_S A s.heap s.heap [] := va_S.rf
  have hl := lv_entry ([.ref (ad 0 0), .int (nI s0), .ref (u)]) (n := 5) (Nat.le_of_ble_eq_true rfl)
  rw [lg_entry_eq]
  generalize (lg_sl ([.ref (ad 0 0), .int (nI s0), .ref (u)]) ++ List.replicate (5 - (lg_sl ([.ref (ad 0 0), .int (nI s0), .ref (u)])).length) Slot.unset).toArray = ls at hl ⊢
  have hl : lv_has ls 5 [(0, .ref (ad 0 0)), (1, .int (nI s0)), (2, .ref (u))] := hl
  have iRX7 : ∀ w ∈ wsX70, w ∈ wsX7_learn := by decide +kernel
  have iRX6 : ∀ w ∈ wsX60, w ∈ wsX7_learn := by decide +kernel
  have iRX4 : ∀ w ∈ wsX40, w ∈ wsX7_learn := by decide +kernel
  have hul2 := hu.lt
  refine q_new (own := RX7) (C := RX6) (T := TX6) (N := 3) (ci := 9) hx hb hts iRX6 tyX6 tyX6_ok hown (hts (.classLink RX7 62 RX6) (List.mem_of_getElem? (i := 1) (by decide +kernel))) (hts (.instantiable RX6 3) (List.mem_of_getElem? (i := 2) (by decide +kernel))) (hts (.initialized RX6) (List.mem_of_getElem? (i := 3) (by decide +kernel))) hC.1 hS rfl [.int (nI 0), .int (nI 0), .int (nI 0)] (fun j hj => by match j, hj with | 0, _ => rfl | 1, _ => rfl | 2, _ => rfl) (by show 0 + 1 ≤ 3; omega) (by show 0 + 3 ≤ 7 + ms; omega) dX7_learn_0 (fun H1 hat hzH1 hko hS => ?_)
  have hW := q_kept1 hW hko
  have hu := hu.kept (hko _ hu.lt)
  have n0 : ¬ qlive (qLV G es σ ad) ad s.heap.size := q_nolive (A := A) (H := s.heap) (by assumption) (Nat.le_refl _)
  refine lv_dup hx hb dX7_learn_3 rfl ?_
  refine lv_aload_n hx hb dX7_learn_4 rfl (lv_at hl 2 rfl) ?_
  refine q_getN (C := RX6) (T := TX6) (N := 3) hx hb hts iRX6 hown hC.1 hu rfl 0 (by decide) (va_Nw.use rfl (qf_RX7_317 hC)) rfl (v := .int (nI x1)) rfl dX7_learn_5 ?_
  refine lv_aload_n hx hb dX7_learn_8 rfl (lv_at hl 2 rfl) ?_
  refine q_getN (C := RX6) (T := TX6) (N := 3) hx hb hts iRX6 hown hC.1 hu rfl 1 (by decide) (va_Nw.use rfl (qf_RX7_320 hC)) rfl (v := .int (nI x2)) rfl dX7_learn_9 ?_
  refine lv_aload_n hx hb dX7_learn_12 rfl (lv_at hl 2 rfl) ?_
  refine q_getN (C := RX6) (T := TX6) (N := 3) hx hb hts iRX6 hown hC.1 hu rfl 2 (by decide) (va_Nw.use rfl (qf_RX7_323 hC)) rfl (v := .int (nI x3)) rfl dX7_learn_13 ?_
  refine q_wn (va_runIN (As := [.int (nI x1), .int (nI x2), .int (nI x3)]) (rest := [.ref (s.heap.size)]) ⟨hx, hb, hml, hown, hts⟩ (m_initWords l G (fun x => x = s.heap.size) H1.size s.heap.size (nI x1) (nI x2) (nI x3)) ⟨va_cnB 3 hts gX7_learn_X6_init_n64 rfl rfl rfl (qm_RX7_64 hC) (hts (.initialized RX6) (List.mem_of_getElem? (i := 3) (by decide +kernel))) (by decide +kernel) ⟨Nat.le_of_ble_eq_true rfl, Nat.le_of_ble_eq_true rfl⟩, rfl, (hts (.instanceMethod yX6_init) (List.mem_of_getElem? (i := 8) (by decide +kernel)))⟩ ⟨qK.blind, qK.pre hC hat rfl rfl⟩ rfl rfl hl.1 rfl (lv_room (Nat.le_of_ble_eq_true rfl)) dX7_learn_16 ⟨Nat.le_of_ble_eq_true rfl, Nat.le_add_right_of_le (Nat.le_of_ble_eq_true rfl)⟩) hS (fun x hx => by cases hx; exact hA _ (Nat.le_refl _)) (fun x hx => by cases hx; exact hA _ (Nat.le_refl _)) (fun H2 locs hv0 hz2 hk hS => ?_)
  have hW := q_kept2 hW n0 hk
  have hu := hu.kept (hk _ hu.lt (by omega))
  refine lv_astore_n (lv' := [(3, .ref (s.heap.size)), (0, .ref (ad 0 0)), (1, .int (nI s0)), (2, .ref (u))]) hx hb dX7_learn_19 rfl hl (by decide) rfl (fun ls hl => ?_)
  refine q_new (own := RX7) (C := RX4) (T := TX4) (N := 4) (ci := 7) hx hb hts iRX4 tyX4 tyX4_ok hown (hts (.classLink RX7 112 RX4) (List.mem_of_getElem? (i := 4) (by decide +kernel))) (hts (.instantiable RX4 4) (List.mem_of_getElem? (i := 5) (by decide +kernel))) (hts (.initialized RX4) (List.mem_of_getElem? (i := 6) (by decide +kernel))) hC.1 hS rfl [.int (nI 0), .int (nI 0), .null, .int (nI 0)] (fun j hj => by match j, hj with | 0, _ => rfl | 1, _ => rfl | 2, _ => rfl | 3, _ => rfl) (by show 0 + 1 + 0 + 1 ≤ 3; omega) (by show 0 + 3 + 0 + 4 ≤ 7 + ms; omega) dX7_learn_20 (fun H3 hat hzH3 hko hS => ?_)
  have n1 := q_nolive hW (Nat.le_refl _)
  have hv0 := hv0.kept (hko _ hv0.lt)
  have hW := q_kept1 hW hko
  have hu := hu.kept (hko _ hu.lt)
  refine lv_dup hx hb dX7_learn_23 rfl ?_
  refine lv_aload_n hx hb dX7_learn_24 rfl (lv_at hl 1 rfl) ?_
  refine q_get (C := RX7) (T := TX7) (N := 7) hx hb hts iRX7 hown hC.1 (hW.to qLV0) rfl 1 (by decide) (hts (.fieldLink RX7 16 "LogWeave" "patternList" "Ljava/util/ArrayList;") (List.mem_of_getElem? (i := 7) (by decide +kernel))) rfl (v := .ref (ad 1 1)) rfl dX7_learn_25 ?_
  refine q_v (va_runV (As := []) (rest := [.ref (H2.size), .ref (H2.size)]) ⟨hx, hb, hml, hown, hts⟩ (m_size l G (ad 1 1) _ _ (nI (σ 0 1))) (cwV 0 hts gX7_learn_Jx4a65c_size_8abf5 rfl rfl rfl (by decide +kernel) ⟨Nat.le_of_ble_eq_true rfl, Nat.le_of_ble_eq_true rfl⟩) ⟨qO.blind, qrecv hC (hW.to (qLV1 (j := 1) (by decide))) rfl, qO.pre hC (hW.lob (by decide))⟩ rfl rfl hl.1 rfl (lv_room (Nat.le_of_ble_eq_true rfl)) dX7_learn_28 ⟨Nat.le_of_ble_eq_true rfl, Nat.le_add_right_of_le (Nat.le_of_ble_eq_true rfl)⟩) hS (fun _ h => h.elim) (fun locs hS => ?_)
  refine lv_iload_n hx hb dX7_learn_31 rfl (lv_at hl 2 rfl) ?_
  refine lv_aload_n hx hb dX7_learn_32 rfl (lv_at hl 0 rfl) ?_
  refine q_wn (va_runIN (As := [.int (nI (σ 0 1)), .int (nI s0), .ref (s.heap.size)]) (rest := [.ref (H2.size)]) ⟨hx, hb, hml, hown, hts⟩ (m_initPattern l G (fun x => x = H2.size) H3.size H2.size (nI (σ 0 1)) (nI s0) s.heap.size) ⟨va_cnB 3 hts gX7_learn_X4_init_n326 rfl rfl rfl (qm_RX7_326 hC) (hts (.initialized RX4) (List.mem_of_getElem? (i := 6) (by decide +kernel))) (by decide +kernel) ⟨Nat.le_of_ble_eq_true rfl, Nat.le_of_ble_eq_true rfl⟩, rfl, (hts (.instanceMethod yX4_init) (List.mem_of_getElem? (i := 22) (by decide +kernel)))⟩ ⟨qK.blind, qK.pre hC hat rfl rfl⟩ rfl rfl hl.1 rfl (lv_room (Nat.le_of_ble_eq_true rfl)) dX7_learn_33 ⟨Nat.le_of_ble_eq_true rfl, Nat.le_add_right_of_le (Nat.le_of_ble_eq_true rfl)⟩) hS (fun x hx => by cases hx; exact hA _ (by omega)) (fun x hx => by cases hx; exact hA _ (by omega)) (fun H4 locs hv1 hz4 hk hS => ?_)
  have hv0 := hv0.kept (hk _ hv0.lt (by omega))
  have hW := q_kept2 hW n1 hk
  have hu := hu.kept (hk _ hu.lt (by omega))
  have hW9 : qLW G es A σ (qup (qup ad 6 (σ 0 1) H2.size) 7 (σ 0 1) s.heap.size) H4 := hW.pend hF (J := 1) (by decide) _ _
  have n19 : ¬ qlive (qLV G es σ (qup (qup ad 6 (σ 0 1) H2.size) 7 (σ 0 1) s.heap.size)) (qup (qup ad 6 (σ 0 1) H2.size) 7 (σ 0 1) s.heap.size) H2.size := qlive_pend hF (J := 1) (by decide) n1
  have n09 : ¬ qlive (qLV G es σ (qup (qup ad 6 (σ 0 1) H2.size) 7 (σ 0 1) s.heap.size)) (qup (qup ad 6 (σ 0 1) H2.size) 7 (σ 0 1) s.heap.size) s.heap.size := qlive_pend hF (J := 1) (by decide) n0
  have nu9 : ¬ qlive (qLV G es σ (qup (qup ad 6 (σ 0 1) H2.size) 7 (σ 0 1) s.heap.size)) (qup (qup ad 6 (σ 0 1) H2.size) 7 (σ 0 1) s.heap.size) u := qlive_pend hF (J := 1) (by decide) hul
  refine lv_astore (lv' := [(4, .ref (H2.size)), (3, .ref (s.heap.size)), (0, .ref (ad 0 0)), (1, .int (nI s0)), (2, .ref (u))]) hx hb dX7_learn_36 hl (by decide) rfl (fun ls hl => ?_)
  refine lv_aload_n hx hb dX7_learn_38 rfl (lv_at hl 2 rfl) ?_
  refine q_get (C := RX7) (T := TX7) (N := 7) hx hb hts iRX7 hown hC.1 (hW.to qLV0) rfl 1 (by decide) (hts (.fieldLink RX7 16 "LogWeave" "patternList" "Ljava/util/ArrayList;") (List.mem_of_getElem? (i := 7) (by decide +kernel))) rfl (v := .ref (ad 1 1)) rfl dX7_learn_39 ?_
  refine lv_aload hx hb dX7_learn_42 (lv_at hl 0 rfl) ?_
  refine q_ad (va_runV (As := [.ref (H2.size)]) (rest := []) ⟨hx, hb, hml, hown, hts⟩ (m_add l G es A σ (qup (qup ad 6 (σ 0 1) H2.size) 7 (σ 0 1) s.heap.size) 1 (hF.cap 1) (hF.c 1) (by decide) H2.size [.int (nI (σ 0 1)), .int (nI s0), .ref s.heap.size, .int (nI 0)] ms hms) (cwV 1 hts gX7_learn_Jx4a65c_add_9ea2d rfl rfl rfl (by decide +kernel) ⟨Nat.le_of_ble_eq_true rfl, Nat.le_of_ble_eq_true rfl⟩) ⟨qWv.blind, qrecv hC (hW9.to (qLV1 (j := 1) (by decide))) rfl, qWv.pre hC hW9 hv1 n19 hZ hS (fun _ h => h) (fun q h => hA q (Nat.le_trans hS.1 h))⟩ rfl rfl hl.1 rfl (lv_room (Nat.le_of_ble_eq_true rfl)) dX7_learn_44 ⟨by show 0 + 1 + 0 + 1 + 0 + 1 ≤ 3; omega, by show 0 + 3 + 0 + 4 + 0 + ms ≤ 7 + ms; omega⟩) hS (fun _ h => h) (fun _ h => h) (fun H5 locs hG hz5 hS => ?_)
  have ha9 : (List.all [(96, s0), (97, 0), (112, x1 + 1), (113, x2 + 1), (114, x3 + 1)] (fun x => decide (64 + 32 * 1 ≤ x.1) && decide (x.1 < 96 + 32 * 1))) = true := rfl
  have e3 : qLV G es (qfLe σ s0 x1 x2 x3) (qup (qup ad 6 (σ 0 1) H2.size) 7 (σ 0 1) s.heap.size) 6 (σ 0 1) = some (.inr (7, [.int (nI (σ 0 1)), .int (nI s0), .ref s.heap.size, .int (nI 0)])) := by rw [qLV6 (by unfold qfLe; rw [qad_0 ha9]; omega)]; unfold qfLe; rw [qad_in (r := 96) (v := s0) rfl (by decide), qad_in (r := 97) (v := 0) rfl (by decide), qup_s]
  have e4 : qLV G es (qfLe σ s0 x1 x2 x3) (qup (qup ad 6 (σ 0 1) H2.size) 7 (σ 0 1) s.heap.size) 7 (σ 0 1) = some (.inr (9, [.int (nI x1), .int (nI x2), .int (nI x3)])) := by rw [qLV7 (by unfold qfLe; rw [qad_0 ha9]; omega)]; unfold qfLe; rw [qad_in (r := 112) (v := x1 + 1) rfl (by decide), qad_in (r := 113) (v := x2 + 1) rfl (by decide), qad_in (r := 114) (v := x3 + 1) rfl (by decide), show (1 : Int32) = nI 1 from rfl, pk_sub (by omega), pk_sub (by omega), pk_sub (by omega)]; rfl
  obtain ⟨q9, hWn, hnl⟩ := hW9.grow (σ' := qfLe σ s0 x1 x2 x3) (J := 1) (by decide) (hF.c 1) hG (fun q h => hA q (by omega)) hv1 hv0 n19 n09 (by omega) (hA _ (by omega)) (hA _ (Nat.le_refl _)) ((qup_k (by decide)).trans (qup_s _ _ _ _)) (qup_s _ _ _ _) (qad_0 ha9) (qad_16 ha9) (qad_32 ha9) (fun r j g1 g2 _ => qad_r ha9 g1 g2) e3 e4
  have hun : va_at G.1 vwCl (u, .inr (9, [.int (nI x1), .int (nI x2), .int (nI x3)])) H5 := by obtain ⟨q, hq, -, -, -, hk9⟩ := hG; exact hu.kept (hk9 u hu.lt (fun z => nu9 ⟨1, 1, _, qLV1 (by decide), z.symm⟩) (fun z => nu9 ⟨2, 1, _, qLV2 (by decide) z.1, z.2.symm⟩))
  have nun : ¬ qlive (qLV G es (qfLe σ s0 x1 x2 x3) (qup (qup (qup ad 6 (σ 0 1) H2.size) 7 (σ 0 1) s.heap.size) 2 1 q9)) (qup (qup (qup ad 6 (σ 0 1) H2.size) 7 (σ 0 1) s.heap.size) 2 1 q9) u := hnl u hu.lt nu9 (by omega) (by omega)
  refine lv_pop hx hb dX7_learn_47 rfl ?_
  refine lv_aload hx hb dX7_learn_48 (lv_at hl 0 rfl) ?_
  refine W.widen (k := 3) (n := 7 + ms) (by omega) (by omega) ?_
  exact W.aret hx hb hr (Or.inl ⟨_, rfl⟩) (Or.inr ⟨_, rfl⟩) (fun t ht _ => ⟨H2.size, rfl, by rw [ht]; exact ⟨_, qAE.pend (J := 1), (qup_k (by decide)).trans ((qup_k (by decide)).trans (qup_s _ _ _ _)), hWn, hun, nun⟩, hS.F ht⟩) hS.2.2 dX7_learn_50
