/-! the law's loop -/
theorem l_and31 (x : Int32) : ∃ j, j < 32 ∧ x &&& nI 31 = nI j := by
  refine ⟨x.toBitVec.toNat % 32, Nat.mod_lt _ (by decide), ?_⟩
  apply Int32.toBitVec_inj.mp
  have h : ∀ m, (nI m).toBitVec = BitVec.ofNat 32 m := fun _ => rfl
  rw [Int32.toBitVec_and, h, h]
  apply BitVec.eq_of_toNat_eq
  have e : x.toBitVec.toNat &&& 31 = x.toBitVec.toNat % 32 := Nat.and_two_pow_sub_one_eq_mod x.toBitVec.toNat 5
  rw [BitVec.toNat_and, BitVec.toNat_ofNat, BitVec.toNat_ofNat, Nat.mod_eq_of_lt (show 31 < 2 ^ 32 by decide), e, Nat.mod_eq_of_lt (show x.toBitVec.toNat % 32 < 2 ^ 32 from Nat.lt_trans (Nat.mod_lt _ (by decide)) (by decide))]
theorem l_sub8 {k L : Nat} (hk : 8 * k ≤ L) (hL : L ≤ 4096) : nI L - nI 8 < nI (8 * k) ↔ L < 8 * k + 8 := by
  by_cases h : 8 ≤ L
  · have e : nI L - nI 8 = nI (L - 8) := by
      rw [show nI L = nI (L - 8) + nI 8 by rw [nI_add, Nat.sub_add_cancel h], Int32.add_sub_cancel]
    rw [e, nI_ltI (by omega) (by omega)]
    omega
  · have hk0 : k = 0 := by omega
    subst hk0
    refine iff_of_true ?_ (by omega)
    rcases (show L = 0 ∨ L = 1 ∨ L = 2 ∨ L = 3 ∨ L = 4 ∨ L = 5 ∨ L = 6 ∨ L = 7 by omega) with rfl | rfl | rfl | rfl | rfl | rfl | rfl | rfl <;> decide +kernel
section LP
variable {p : Program} {l : Launch} {e : Env} {s : State} {m : MethodId} {below : List Frame} {meth : Method} {c : Code} {b L : Nat} {xs : Nat → Int32} {G : QG} {es o1 o2 hz : Nat} {A B : Nat → Prop} {bd : QSt}
set_option maxHeartbeats 4000000 in
set_option maxRecDepth 100000 in
theorem l_turn (cx : lC p l s m meth c b L xs G es o1 o2 hz A B) {k : Nat} (hk : 8 * k + 8 ≤ L) {σ ρ ad : QSt} {H : Heap} {ls : Array Slot} (hI : lS G es A B bd o1 o2 hz s σ ρ ad H) (hl : lv_has ls 9 [(0, .ref b), (1, .ref (ad 0 0)), (2, .ref (bd 0 0)), (3, .ref o1), (4, .ref o2), (5, .int (nI (8 * k)))]) {cells slots : Nat} {Q : State → Prop} (hroom : cells + 24 ≤ 603072 ∧ slots + 14000 ≤ 7223402)
    (next : ∀ (σ ρ ad : QSt) (H : Heap) (ls : Array Slot), lS G es A B bd o1 o2 hz s σ ρ ad H → lv_has ls 9 [(0, .ref b), (1, .ref (ad 0 0)), (2, .ref (bd 0 0)), (3, .ref o1), (4, .ref o2), (5, .int (nI (8 * k)))] → W p l e room_1 s m #[Value.ref b] below meth c H [] (cells + 24) (slots + 14000) Q (F0 m 1997 ls [])) {j : Nat} (hj : j < 32) : W p l e room_1 s m #[Value.ref b] below meth c H [] cells slots Q (F0 m 45 ls [.int (nI j)]) := by
  have hx := cx.1
  have hb := cx.2.1
  rcases (show j = 0 ∨ j = 1 ∨ j = 2 ∨ j = 3 ∨ j = 4 ∨ j = 5 ∨ j = 6 ∨ j = 7 ∨ j = 8 ∨ j = 9 ∨ j = 10 ∨ j = 11 ∨ j = 12 ∨ j = 13 ∨ j = 14 ∨ j = 15 ∨ j = 16 ∨ j = 17 ∨ j = 18 ∨ j = 19 ∨ j = 20 ∨ j = 21 ∨ j = 22 ∨ j = 23 ∨ j = 24 ∨ j = 25 ∨ j = 26 ∨ j = 27 ∨ j = 28 ∨ j = 29 ∨ j = 30 ∨ j = 31 by omega) with rfl | rfl | rfl | rfl | rfl | rfl | rfl | rfl | rfl | rfl | rfl | rfl | rfl | rfl | rfl | rfl | rfl | rfl | rfl | rfl | rfl | rfl | rfl | rfl | rfl | rfl | rfl | rfl | rfl | rfl | rfl | rfl
  · exact lv_tableIn (off := 143) (tgt := 188) hx hb dL_law_45 (by decide +kernel) (by decide +kernel) (by decide +kernel) (by decide) (c_addLine cx hk hI hl hroom next)
  · exact lv_tableIn (off := 261) (tgt := 306) hx hb dL_law_45 (by decide +kernel) (by decide +kernel) (by decide +kernel) (by decide) (c_lines cx hk hI hl hroom next)
  · exact lv_tableIn (off := 274) (tgt := 319) hx hb dL_law_45 (by decide +kernel) (by decide +kernel) (by decide +kernel) (by decide) (c_stateOf cx hk hI hl hroom next)
  · exact lv_tableIn (off := 330) (tgt := 375) hx hb dL_law_45 (by decide +kernel) (by decide +kernel) (by decide +kernel) (by decide) (c_patternOf cx hk hI hl hroom next)
  · exact lv_tableIn (off := 386) (tgt := 431) hx hb dL_law_45 (by decide +kernel) (by decide +kernel) (by decide +kernel) (by decide) (c_patterns cx hk hI hl hroom next)
  · exact lv_tableIn (off := 442) (tgt := 487) hx hb dL_law_45 (by decide +kernel) (by decide +kernel) (by decide +kernel) (by decide) (c_wordAt cx hk hI hl hroom next)
  · exact lv_tableIn (off := 510) (tgt := 555) hx hb dL_law_45 (by decide +kernel) (by decide +kernel) (by decide +kernel) (by decide) (c_linesOf cx hk hI hl hroom next)
  · exact lv_tableIn (off := 566) (tgt := 611) hx hb dL_law_45 (by decide +kernel) (by decide +kernel) (by decide +kernel) (by decide) (c_values cx hk hI hl hroom next)
  · exact lv_tableIn (off := 634) (tgt := 679) hx hb dL_law_45 (by decide +kernel) (by decide +kernel) (by decide +kernel) (by decide) (c_setBudget cx hk hI hl hroom next)
  · exact lv_tableIn (off := 702) (tgt := 747) hx hb dL_law_45 (by decide +kernel) (by decide +kernel) (by decide +kernel) (by decide) (c_kept cx hk hI hl hroom next)
  · exact lv_tableIn (off := 758) (tgt := 803) hx hb dL_law_45 (by decide +kernel) (by decide +kernel) (by decide +kernel) (by decide) (c_dropped cx hk hI hl hroom next)
  · exact lv_tableIn (off := 814) (tgt := 859) hx hb dL_law_45 (by decide +kernel) (by decide +kernel) (by decide +kernel) (by decide) (c_archive cx hk hI hl hroom next)
  · exact lv_tableIn (off := 870) (tgt := 915) hx hb dL_law_45 (by decide +kernel) (by decide +kernel) (by decide +kernel) (by decide) (c_request cx hk hI hl hroom next)
  · exact lv_tableIn (off := 938) (tgt := 983) hx hb dL_law_45 (by decide +kernel) (by decide +kernel) (by decide +kernel) (by decide) (c_answer cx hk hI hl hroom next)
  · exact lv_tableIn (off := 994) (tgt := 1039) hx hb dL_law_45 (by decide +kernel) (by decide +kernel) (by decide +kernel) (by decide) (c_addAlert cx hk hI hl hroom next)
  · exact lv_tableIn (off := 1126) (tgt := 1171) hx hb dL_law_45 (by decide +kernel) (by decide +kernel) (by decide +kernel) (by decide) (c_alertState cx hk hI hl hroom next)
  · exact lv_tableIn (off := 1182) (tgt := 1227) hx hb dL_law_45 (by decide +kernel) (by decide +kernel) (by decide +kernel) (by decide) (c_counted cx hk hI hl hroom next)
  · exact lv_tableIn (off := 1238) (tgt := 1283) hx hb dL_law_45 (by decide +kernel) (by decide +kernel) (by decide +kernel) (by decide) (c_countedAnew cx hk hI hl hroom next)
  · exact lv_tableIn (off := 1294) (tgt := 1339) hx hb dL_law_45 (by decide +kernel) (by decide +kernel) (by decide +kernel) (by decide) (c_heldFor cx hk hI hl hroom next)
  · exact lv_tableIn (off := 1350) (tgt := 1395) hx hb dL_law_45 (by decide +kernel) (by decide +kernel) (by decide +kernel) (by decide) (c_firings cx hk hI hl hroom next)
  · exact lv_tableIn (off := 1363) (tgt := 1408) hx hb dL_law_45 (by decide +kernel) (by decide +kernel) (by decide +kernel) (by decide) (c_alertOf cx hk hI hl hroom next)
  · exact lv_tableIn (off := 1419) (tgt := 1464) hx hb dL_law_45 (by decide +kernel) (by decide +kernel) (by decide +kernel) (by decide) (c_firedAt cx hk hI hl hroom next)
  · exact lv_tableIn (off := 1475) (tgt := 1520) hx hb dL_law_45 (by decide +kernel) (by decide +kernel) (by decide +kernel) (by decide) (c_ground cx hk hI hl hroom next)
  · exact lv_tableIn (off := 1531) (tgt := 1576) hx hb dL_law_45 (by decide +kernel) (by decide +kernel) (by decide +kernel) (by decide) (c_standsOn cx hk hI hl hroom next)
  · exact lv_tableIn (off := 1606) (tgt := 1651) hx hb dL_law_45 (by decide +kernel) (by decide +kernel) (by decide +kernel) (by decide) (c_release cx hk hI hl hroom next)
  · exact lv_tableIn (off := 1662) (tgt := 1707) hx hb dL_law_45 (by decide +kernel) (by decide +kernel) (by decide +kernel) (by decide) (c_isGuarded cx hk hI hl hroom next)
  · exact lv_tableIn (off := 1725) (tgt := 1770) hx hb dL_law_45 (by decide +kernel) (by decide +kernel) (by decide +kernel) (by decide) (c_pass cx hk hI hl hroom next)
  · exact lv_tableIn (off := 1781) (tgt := 1826) hx hb dL_law_45 (by decide +kernel) (by decide +kernel) (by decide +kernel) (by decide) (c_tick cx hk hI hl hroom next)
  · exact lv_tableIn (off := 1794) (tgt := 1839) hx hb dL_law_45 (by decide +kernel) (by decide +kernel) (by decide +kernel) (by decide) (c_bytes cx hk hI hl hroom next)
  · exact lv_tableIn (off := 1808) (tgt := 1853) hx hb dL_law_45 (by decide +kernel) (by decide +kernel) (by decide +kernel) (by decide) (c_droppedShare cx hk hI hl hroom next)
  · exact lv_tableIn (off := 1874) (tgt := 1919) hx hb dL_law_45 (by decide +kernel) (by decide +kernel) (by decide +kernel) (by decide) (c_meanRank cx hk hI hl hroom next)
  · exact lv_tableIn (off := 1939) (tgt := 1984) hx hb dL_law_45 (by decide +kernel) (by decide +kernel) (by decide +kernel) (by decide) (c_isSound cx hk hI hl hroom next)
set_option maxHeartbeats 4000000 in
set_option maxRecDepth 100000 in
theorem l_loop (cx : lC p l s m meth c b L xs G es o1 o2 hz A B) {Q : State → Prop} (hend : ∀ (H : Heap) (ls : Array Slot), va_S (lF s) s.heap H [] → W p l e room_1 s m #[Value.ref b] below meth c H [] 603072 7223402 Q (F0 m 2003 ls [])) :
    ∀ (n k : Nat) (σ ρ ad : QSt) (H : Heap) (ls : Array Slot) (cells slots : Nat), 8 * k ≤ L → L < 8 * (k + n) + 8 → cells + 24 * n ≤ 603072 → slots + 14000 * n ≤ 7223402 → lS G es A B bd o1 o2 hz s σ ρ ad H → lv_has ls 9 [(0, .ref b), (1, .ref (ad 0 0)), (2, .ref (bd 0 0)), (3, .ref o1), (4, .ref o2), (5, .int (nI (8 * k)))] → W p l e room_1 s m #[Value.ref b] below meth c H [] cells slots Q (F0 m 28 ls []) := by
  intro n
  induction n with
  | zero =>
    intro k σ ρ ad H ls cells slots hk hn hc1 hc2 hI hl
    obtain ⟨hx, hb, hml, hown, hts, hlocks, hst, hX, hbl, hC, hZ0, hzT, hzN, hL, hD⟩ := id cx
    obtain ⟨hv, hR, hw, hW, hrW, hat1, hat2, hS, hhz⟩ := id hI
    refine lv_iload hx hb dL_law_28 (lv_at hl 5 rfl) ?_
    refine lv_aload_n hx hb dL_law_30 rfl (lv_at hl 0 rfl) ?_
    refine va_slen hx hb hX hbl (Nat.not_le.mpr hbl) hS dL_law_31 ?_
    refine lv_bipush (v := nI 8) hx hb dL_law_32 (by decide) ?_
    refine lv_isub hx hb dL_law_34 ?_
    refine lv_icmp_gt (tgt := 2003) hx hb dL_law_35 (by decide) (fun h9 => ?_) (fun h9 => ?_)
    · refine W.widen (k := 603072) (n := 7223402) (by omega) (by omega) ?_
      exact hend H ls hS
    · exact absurd ((l_sub8 hk hL).mpr (by omega)) h9
  | succ n ih =>
    intro k σ ρ ad H ls cells slots hk hn hc1 hc2 hI hl
    obtain ⟨hx, hb, hml, hown, hts, hlocks, hst, hX, hbl, hC, hZ0, hzT, hzN, hL, hD⟩ := id cx
    obtain ⟨hv, hR, hw, hW, hrW, hat1, hat2, hS, hhz⟩ := id hI
    refine lv_iload hx hb dL_law_28 (lv_at hl 5 rfl) ?_
    refine lv_aload_n hx hb dL_law_30 rfl (lv_at hl 0 rfl) ?_
    refine va_slen hx hb hX hbl (Nat.not_le.mpr hbl) hS dL_law_31 ?_
    refine lv_bipush (v := nI 8) hx hb dL_law_32 (by decide) ?_
    refine lv_isub hx hb dL_law_34 ?_
    refine lv_icmp_gt (tgt := 2003) hx hb dL_law_35 (by decide) (fun h9 => ?_) (fun h9 => ?_)
    · refine W.widen (k := 603072) (n := 7223402) (by omega) (by omega) ?_
      exact hend H ls hS
    · have hk8 : 8 * k + 8 ≤ L := Nat.not_lt.mp (fun z => h9 ((l_sub8 hk hL).mpr z))
      refine lv_aload_n hx hb dL_law_38 rfl (lv_at hl 0 rfl) ?_
      refine lv_iload hx hb dL_law_39 (lv_at hl 5 rfl) ?_
      refine va_sld (i := nI (8 * k)) hx hb hX hbl (Nat.not_le.mpr hbl) hS (vp_in_nI (n := 8 * k) (by omega) (by omega)) dL_law_41 ?_
      refine lv_bipush (v := nI 31) hx hb dL_law_42 (by decide) ?_
      refine lv_iand hx hb dL_law_44 ?_
      obtain ⟨j, hj, hj2⟩ := l_and31 (xs (nI (8 * k)).toNatClampNeg)
      refine q_ti hj2 ?_
      refine l_turn cx hk8 hI hl (by omega) (fun σ ρ ad H ls hI hl => ?_) hj
      refine lv_iinc (v := nI (8 * (k + 1))) (lv' := [(5, .int (nI (8 * (k + 1)))), (0, .ref b), (1, .ref (ad 0 0)), (2, .ref (bd 0 0)), (3, .ref o1), (4, .ref o2)]) hx hb dL_law_1997 hl (k := 5) rfl (by rw [show Int32.ofInt 8 = nI 8 from rfl, nI_add, show 8 * k + 8 = 8 * (k + 1) by omega]) (by decide) rfl (fun ls hl => ?_)
      refine lv_goto (tgt := 28) hx hb dL_law_2000 (by decide) ?_
      exact ih (k + 1) σ ρ ad H ls (cells + 24) (slots + 14000) (by omega) (by omega) (by omega) (by omega) hI (lv_sub hl [1, 2, 3, 4, 5, 0] rfl)
end LP
