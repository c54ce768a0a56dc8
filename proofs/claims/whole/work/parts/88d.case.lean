section CS
variable {p : Program} {l : Launch} {e : Env} {s : State} {m : MethodId} {below : List Frame} {meth : Method} {c : Code} {b L : Nat} {xs : Nat → Int32} {G : QG} {es o1 o2 hz : Nat} {A B : Nat → Prop} {bd : QSt}
set_option maxHeartbeats 4000000 in
set_option maxRecDepth 100000 in
theorem c_release (cx : lC p l s m meth c b L xs G es o1 o2 hz A B) {k : Nat} (hk : 8 * k + 8 ≤ L) {σ ρ ad : QSt} {H : Heap} {ls : Array Slot} (hI : lS G es A B bd o1 o2 hz s σ ρ ad H) (hl : lv_has ls 9 [(0, .ref b), (1, .ref (ad 0 0)), (2, .ref (bd 0 0)), (3, .ref o1), (4, .ref o2), (5, .int (nI (8 * k)))]) {cells slots : Nat} {Q : State → Prop} (hroom : cells + 24 ≤ 603072 ∧ slots + 14000 ≤ 7223402)
    (next : ∀ (σ ρ ad : QSt) (H : Heap) (ls : Array Slot), lS G es A B bd o1 o2 hz s σ ρ ad H → lv_has ls 9 [(0, .ref b), (1, .ref (ad 0 0)), (2, .ref (bd 0 0)), (3, .ref o1), (4, .ref o2), (5, .int (nI (8 * k)))] → W p l e room_1 s m #[Value.ref b] below meth c H [] (cells + 24) (slots + 14000) Q (F0 m 1997 ls [])) : W p l e room_1 s m #[Value.ref b] below meth c H [] cells slots Q (F0 m 1651 ls []) := by
  obtain ⟨hx, hb, hml, hown, hts, hlocks, hst, hX, hbl, hC, hZ0, hzT, hzN, hL, hD⟩ := cx
  obtain ⟨hv, hR, hw, hW, hrW, ⟨f1, hat1⟩, ⟨f2, hat2⟩, hS, hhz⟩ := hI
  have hF := hv.1.wf
  have hB := hF.1
  have hn := hF.n
  obtain ⟨x1, hx1⟩ : ∃ x, x = xs (8 * k + 1) := ⟨_, rfl⟩
  obtain ⟨K, mc, ms, fr, lo, fr2, lo2, σ2, R2, v, hK, hmc, hms, ⟨hr1, hr2, hr3, hr4⟩, hv2, hR2, hw2, hK2, hPv, M1, M2⟩ := lk_release (l := l) (G := G) (es := es) (A := A) (B := B) (σ := σ) (ρ := ρ) (ad := ad) (bd := bd) (o1 := o1) (f1 := f1) hst hv hR hw hD.n1 x1
  refine lv_aload_n hx hb dL_law_1651 rfl (lv_at hl 1 rfl) ?_
  refine lv_aload_n hx hb dL_law_1652 rfl (lv_at hl 0 rfl) ?_
  refine lv_iload hx hb dL_law_1653 (lv_at hl 5 rfl) ?_
  refine lv_iconst (v := nI 1) hx hb dL_law_1655 (by decide) ?_
  refine lv_iadd hx hb dL_law_1656 ?_
  refine q_ti (nI_add (8 * k) 1) ?_
  refine va_sld (i := nI ((8 * k) + 1)) hx hb hX hbl (Nat.not_le.mpr hbl) hS (vp_in_nI (n := 8 * k + 1) (by omega) (by omega)) dL_law_1657 ?_
  refine q_ti (y := x1) (by rw [hx1, nI_clamp (by omega)]) ?_
  refine lv_aload_n hx hb dL_law_1658 rfl (lv_at hl 3 rfl) ?_
  refine q_wv (vx_runSW (As := [.ref (ad 0 0), .int (x1), .ref (o1)]) (rest := []) ⟨hx, hb, hml, hown, hts⟩ M1 (vx_cwSW 3 hts gL_law_L_release rfl rfl rfl (by decide +kernel) ⟨by show fr + 1 ≤ 21; omega, by show 8 + (4 + 11) + lo ≤ 10922; omega⟩) ⟨qLg.blind, qLg.pre hC hW (hD.z hZ0 hS) (hD.up hhz) hzT hzN hat1⟩ rfl rfl hl.1 rfl (lv_room (Nat.le_of_ble_eq_true rfl)) dL_law_1659 ⟨by show cells + mc ≤ 603072; omega, by show slots + ms ≤ 7223402; omega⟩) hS hD.a1 hD.a1 (fun H1 locs hP9 hz1 hk1 hS => ?_)
  obtain ⟨ad9, hAE, hW, f3, hat1, hv1⟩ := hP9
  have hrW := hD.w1 hrW hk1
  have hat2 := hD.c1 hat2 hk1
  have hhz := Nat.le_trans hhz hz1
  refine lv_istore (lv' := [(6, .int (nI K)), (0, .ref (b)), (1, .ref (ad 0 0)), (2, .ref (bd 0 0)), (3, .ref (o1)), (4, .ref (o2)), (5, .int (nI (8 * k)))]) hx hb dL_law_1662 hl (by decide) rfl (fun ls hl => ?_)
  refine lv_aload_n hx hb dL_law_1664 rfl (lv_at hl 3 rfl) ?_
  refine lv_aload_n hx hb dL_law_1665 rfl (lv_at hl 1 rfl) ?_
  refine lv_iload hx hb dL_law_1666 (lv_at hl 6 rfl) ?_
  refine lv_iconst (v := nI 1) hx hb dL_law_1668 (by decide) ?_
  refine lv_iadd hx hb dL_law_1669 ?_
  refine q_ti (nI_add (8 * k) 1) ?_
  refine va_sld (i := nI ((8 * k) + 1)) hx hb hX hbl (Nat.not_le.mpr hbl) hS (vp_in_nI (n := 8 * k + 1) (by omega) (by omega)) dL_law_1670 ?_
  refine q_ti (y := x1) (by rw [hx1, nI_clamp (by omega)]) ?_
  refine q_wv (va_runV (As := [.int (x1)]) (rest := []) ⟨hx, hb, hml, hown, hts⟩ M2 (cwV 1 hts gL_law_X8_release rfl rfl rfl (by decide +kernel) ⟨by show fr2 + 1 ≤ 21; omega, by show 8 + (2 + 11) + lo2 ≤ 10922; omega⟩) ⟨rR.blind, qrecv hC (hrW.to rLV0) rfl, rR.pre hC hrW⟩ rfl rfl hl.1 rfl (lv_room (Nat.le_of_ble_eq_true rfl)) dL_law_1671 ⟨by show cells + mc + 0 ≤ 603072; omega, by show slots + ms + 0 ≤ 7223402; omega⟩) hS hD.b hD.b (fun H2 locs hrW hz2 hk2 hS => ?_)
  have hW := hD.wB hW hk2
  have hat1 := hD.k1 hat1 hk2
  have hat2 := hD.k2 hat2 hk2
  have hhz := Nat.le_trans hhz hz2
  refine lv_istore (lv' := [(7, .int (v)), (6, .int (nI K)), (0, .ref (b)), (1, .ref (ad 0 0)), (2, .ref (bd 0 0)), (3, .ref (o1)), (4, .ref (o2)), (5, .int (nI (8 * k)))]) hx hb dL_law_1674 hl (by decide) rfl (fun ls hl => ?_)
  refine lv_aload_n hx hb dL_law_1676 rfl (lv_at hl 4 rfl) ?_
  refine q_v (va_runV (As := []) (rest := []) ⟨hx, hb, hml, hown, hts⟩ (m_rthrown l G B R2 bd hw2) (cwV 0 hts gL_law_X8_thrown rfl rfl rfl (by decide +kernel) ⟨Nat.le_of_ble_eq_true rfl, Nat.le_of_ble_eq_true rfl⟩) ⟨rR.blind, qrecv hC (hrW.to rLV0) rfl, rR.pre hC hrW⟩ rfl rfl hl.1 rfl (lv_room (Nat.le_of_ble_eq_true rfl)) dL_law_1677 ⟨by show cells + mc + 0 + 0 ≤ 603072; omega, by show slots + ms + 0 + 0 ≤ 7223402; omega⟩) hS (fun _ h => h.elim) (fun locs hS => ?_)
  refine q_ti (y := nI K) (by rw [hK2]) ?_
  refine lv_iload hx hb dL_law_1680 (lv_at hl 1 rfl) ?_
  refine q_eq (tgt := 1687) hx hb (by omega) (by omega) dL_law_1682 (by decide) (fun h5 => ?_) (fun h5 => (by omega))
  refine lv_iload hx hb dL_law_1687 (lv_at hl 1 rfl) ?_
  refine q_ne0 (tgt := 1704) hx hb (by omega) dL_law_1689 (by decide) (fun h6 => ?_) (fun h6 => ?_)
  · skip
    refine lv_goto (tgt := 1997) hx hb dL_law_1704 (by decide) ?_
    refine va_forget (fun q hq => hS.2.2 q hq) ?_
    refine W.widen (k := cells + 24) (n := slots + 14000) (by omega) (by omega) ?_
    exact next σ2 R2 ad9 _ ls ⟨hv2, hR2, hw2, hW, hrW, ⟨_, hat1⟩, ⟨_, hat2⟩, hS.forget, hhz⟩ (by rw [hAE 0 0 (by decide) (fun z => absurd z (by decide))]; exact lv_sub hl [2, 3, 4, 5, 6, 7] rfl)
  · skip
    refine lv_aload_n hx hb dL_law_1692 rfl (lv_at hl 5 rfl) ?_
    refine lv_iconst (v := nI 0) hx hb dL_law_1693 (by decide) ?_
    refine r_lald hx hb hC.1 hat1 2 rfl (i := 0) (by decide) (by decide) (v := (v).toInt64) (hv1 h6) dL_law_1694 ?_
    refine lv_iload hx hb dL_law_1695 (lv_at hl 0 rfl) ?_
    refine lv_i2l (v := (v).toInt64) hx hb dL_law_1697 rfl ?_
    refine W.lcmp hx hb dL_law_1698 ?_
    refine q_ti (y := nI 0) (l_cmp _) ?_
    refine q_eq0 (tgt := 1704) hx hb (by decide) dL_law_1699 (by decide) (fun h9 => ?_) (fun h9 => (by omega))
    refine lv_goto (tgt := 1997) hx hb dL_law_1704 (by decide) ?_
    refine va_forget (fun q hq => hS.2.2 q hq) ?_
    refine W.widen (k := cells + 24) (n := slots + 14000) (by omega) (by omega) ?_
    exact next σ2 R2 ad9 _ ls ⟨hv2, hR2, hw2, hW, hrW, ⟨_, hat1⟩, ⟨_, hat2⟩, hS.forget, hhz⟩ (by rw [hAE 0 0 (by decide) (fun z => absurd z (by decide))]; exact lv_sub hl [2, 3, 4, 5, 6, 7] rfl)
set_option maxHeartbeats 4000000 in
set_option maxRecDepth 100000 in
theorem c_isGuarded (cx : lC p l s m meth c b L xs G es o1 o2 hz A B) {k : Nat} (hk : 8 * k + 8 ≤ L) {σ ρ ad : QSt} {H : Heap} {ls : Array Slot} (hI : lS G es A B bd o1 o2 hz s σ ρ ad H) (hl : lv_has ls 9 [(0, .ref b), (1, .ref (ad 0 0)), (2, .ref (bd 0 0)), (3, .ref o1), (4, .ref o2), (5, .int (nI (8 * k)))]) {cells slots : Nat} {Q : State → Prop} (hroom : cells + 24 ≤ 603072 ∧ slots + 14000 ≤ 7223402)
    (next : ∀ (σ ρ ad : QSt) (H : Heap) (ls : Array Slot), lS G es A B bd o1 o2 hz s σ ρ ad H → lv_has ls 9 [(0, .ref b), (1, .ref (ad 0 0)), (2, .ref (bd 0 0)), (3, .ref o1), (4, .ref o2), (5, .int (nI (8 * k)))] → W p l e room_1 s m #[Value.ref b] below meth c H [] (cells + 24) (slots + 14000) Q (F0 m 1997 ls [])) : W p l e room_1 s m #[Value.ref b] below meth c H [] cells slots Q (F0 m 1707 ls []) := by
  obtain ⟨hx, hb, hml, hown, hts, hlocks, hst, hX, hbl, hC, hZ0, hzT, hzN, hL, hD⟩ := cx
  obtain ⟨hv, hR, hw, hW, hrW, ⟨f1, hat1⟩, ⟨f2, hat2⟩, hS, hhz⟩ := hI
  have hF := hv.1.wf
  have hB := hF.1
  have hn := hF.n
  obtain ⟨x1, hx1⟩ : ∃ x, x = xs (8 * k + 1) := ⟨_, rfl⟩
  obtain ⟨K, mc, ms, fr, lo, fr2, lo2, σ2, R2, v, hK, hmc, hms, ⟨hr1, hr2, hr3, hr4⟩, hv2, hR2, hw2, hK2, hPv, M1, M2⟩ := lk_isGuarded (l := l) (G := G) (es := es) (A := A) (B := B) (σ := σ) (ρ := ρ) (ad := ad) (bd := bd) (o1 := o1) (f1 := f1) hst hv hR hw hD.n1 x1
  refine lv_aload_n hx hb dL_law_1707 rfl (lv_at hl 1 rfl) ?_
  refine lv_aload_n hx hb dL_law_1708 rfl (lv_at hl 0 rfl) ?_
  refine lv_iload hx hb dL_law_1709 (lv_at hl 5 rfl) ?_
  refine lv_iconst (v := nI 1) hx hb dL_law_1711 (by decide) ?_
  refine lv_iadd hx hb dL_law_1712 ?_
  refine q_ti (nI_add (8 * k) 1) ?_
  refine va_sld (i := nI ((8 * k) + 1)) hx hb hX hbl (Nat.not_le.mpr hbl) hS (vp_in_nI (n := 8 * k + 1) (by omega) (by omega)) dL_law_1713 ?_
  refine q_ti (y := x1) (by rw [hx1, nI_clamp (by omega)]) ?_
  refine lv_aload_n hx hb dL_law_1714 rfl (lv_at hl 3 rfl) ?_
  refine q_wv (vx_runSW (As := [.ref (ad 0 0), .int (x1), .ref (o1)]) (rest := []) ⟨hx, hb, hml, hown, hts⟩ M1 (vx_cwSW 3 hts gL_law_L_isGuarded rfl rfl rfl (by decide +kernel) ⟨by show fr + 1 ≤ 21; omega, by show 8 + (4 + 11) + lo ≤ 10922; omega⟩) ⟨qLg.blind, qLg.pre hC hW (hD.z hZ0 hS) (hD.up hhz) hzT hzN hat1⟩ rfl rfl hl.1 rfl (lv_room (Nat.le_of_ble_eq_true rfl)) dL_law_1715 ⟨by show cells + mc ≤ 603072; omega, by show slots + ms ≤ 7223402; omega⟩) hS hD.a1 hD.a1 (fun H1 locs hP9 hz1 hk1 hS => ?_)
  obtain ⟨ad9, hAE, hW, f3, hat1, hv1⟩ := hP9
  have hrW := hD.w1 hrW hk1
  have hat2 := hD.c1 hat2 hk1
  have hhz := Nat.le_trans hhz hz1
  refine lv_istore (lv' := [(6, .int (nI K)), (0, .ref (b)), (1, .ref (ad 0 0)), (2, .ref (bd 0 0)), (3, .ref (o1)), (4, .ref (o2)), (5, .int (nI (8 * k)))]) hx hb dL_law_1718 hl (by decide) rfl (fun ls hl => ?_)
  refine lv_aload_n hx hb dL_law_1720 rfl (lv_at hl 3 rfl) ?_
  refine lv_aload_n hx hb dL_law_1721 rfl (lv_at hl 1 rfl) ?_
  refine lv_iload hx hb dL_law_1722 (lv_at hl 6 rfl) ?_
  refine lv_iconst (v := nI 1) hx hb dL_law_1724 (by decide) ?_
  refine lv_iadd hx hb dL_law_1725 ?_
  refine q_ti (nI_add (8 * k) 1) ?_
  refine va_sld (i := nI ((8 * k) + 1)) hx hb hX hbl (Nat.not_le.mpr hbl) hS (vp_in_nI (n := 8 * k + 1) (by omega) (by omega)) dL_law_1726 ?_
  refine q_ti (y := x1) (by rw [hx1, nI_clamp (by omega)]) ?_
  refine q_wv (va_runV (As := [.int (x1)]) (rest := []) ⟨hx, hb, hml, hown, hts⟩ M2 (cwV 1 hts gL_law_X8_isGuarded rfl rfl rfl (by decide +kernel) ⟨by show fr2 + 1 ≤ 21; omega, by show 8 + (2 + 11) + lo2 ≤ 10922; omega⟩) ⟨rR.blind, qrecv hC (hrW.to rLV0) rfl, rR.pre hC hrW⟩ rfl rfl hl.1 rfl (lv_room (Nat.le_of_ble_eq_true rfl)) dL_law_1727 ⟨by show cells + mc + 0 ≤ 603072; omega, by show slots + ms + 0 ≤ 7223402; omega⟩) hS hD.b hD.b (fun H2 locs hrW hz2 hk2 hS => ?_)
  have hW := hD.wB hW hk2
  have hat1 := hD.k1 hat1 hk2
  have hat2 := hD.k2 hat2 hk2
  have hhz := Nat.le_trans hhz hz2
  refine lv_istore (lv' := [(7, .int (v)), (6, .int (nI K)), (0, .ref (b)), (1, .ref (ad 0 0)), (2, .ref (bd 0 0)), (3, .ref (o1)), (4, .ref (o2)), (5, .int (nI (8 * k)))]) hx hb dL_law_1730 hl (by decide) rfl (fun ls hl => ?_)
  refine lv_aload_n hx hb dL_law_1732 rfl (lv_at hl 4 rfl) ?_
  refine q_v (va_runV (As := []) (rest := []) ⟨hx, hb, hml, hown, hts⟩ (m_rthrown l G B R2 bd hw2) (cwV 0 hts gL_law_X8_thrown rfl rfl rfl (by decide +kernel) ⟨Nat.le_of_ble_eq_true rfl, Nat.le_of_ble_eq_true rfl⟩) ⟨rR.blind, qrecv hC (hrW.to rLV0) rfl, rR.pre hC hrW⟩ rfl rfl hl.1 rfl (lv_room (Nat.le_of_ble_eq_true rfl)) dL_law_1733 ⟨by show cells + mc + 0 + 0 ≤ 603072; omega, by show slots + ms + 0 + 0 ≤ 7223402; omega⟩) hS (fun _ h => h.elim) (fun locs hS => ?_)
  refine q_ti (y := nI K) (by rw [hK2]) ?_
  refine lv_iload hx hb dL_law_1736 (lv_at hl 1 rfl) ?_
  refine q_eq (tgt := 1743) hx hb (by omega) (by omega) dL_law_1738 (by decide) (fun h5 => ?_) (fun h5 => (by omega))
  refine lv_iload hx hb dL_law_1743 (lv_at hl 1 rfl) ?_
  refine q_ne0 (tgt := 1767) hx hb (by omega) dL_law_1745 (by decide) (fun h6 => ?_) (fun h6 => ?_)
  · skip
    refine lv_goto (tgt := 1997) hx hb dL_law_1767 (by decide) ?_
    refine va_forget (fun q hq => hS.2.2 q hq) ?_
    refine W.widen (k := cells + 24) (n := slots + 14000) (by omega) (by omega) ?_
    exact next σ2 R2 ad9 _ ls ⟨hv2, hR2, hw2, hW, hrW, ⟨_, hat1⟩, ⟨_, hat2⟩, hS.forget, hhz⟩ (by rw [hAE 0 0 (by decide) (fun z => absurd z (by decide))]; exact lv_sub hl [2, 3, 4, 5, 6, 7] rfl)
  · skip
    refine lv_aload_n hx hb dL_law_1748 rfl (lv_at hl 5 rfl) ?_
    refine lv_iconst (v := nI 0) hx hb dL_law_1749 (by decide) ?_
    obtain ⟨w9, hw9, rfl⟩ := hPv h6
    refine r_lald hx hb hC.1 hat1 2 rfl (i := 0) (by decide) (by decide) (v := (nI w9).toInt64) (hv1 h6) dL_law_1750 ?_
    refine lv_iload hx hb dL_law_1751 (lv_at hl 0 rfl) ?_
    refine q_eq0 (tgt := 1760) hx hb (by omega) dL_law_1753 (by decide) (fun h8 => ?_) (fun h8 => ?_)
    · skip
      refine lv_lconst (v := lN 0) hx hb dL_law_1760 (by decide) ?_
      refine W.lcmp hx hb dL_law_1761 ?_
      refine q_ti (y := nI 0) (by rw [h8]; decide +kernel) ?_
      refine q_eq0 (tgt := 1767) hx hb (by decide) dL_law_1762 (by decide) (fun h9 => ?_) (fun h9 => (by omega))
      refine lv_goto (tgt := 1997) hx hb dL_law_1767 (by decide) ?_
      refine va_forget (fun q hq => hS.2.2 q hq) ?_
      refine W.widen (k := cells + 24) (n := slots + 14000) (by omega) (by omega) ?_
      exact next σ2 R2 ad9 _ ls ⟨hv2, hR2, hw2, hW, hrW, ⟨_, hat1⟩, ⟨_, hat2⟩, hS.forget, hhz⟩ (by rw [hAE 0 0 (by decide) (fun z => absurd z (by decide))]; exact lv_sub hl [2, 3, 4, 5, 6, 7] rfl)
    · skip
      refine lv_lconst (v := 1) hx hb dL_law_1756 (by decide) ?_
      refine lv_goto (tgt := 1761) hx hb dL_law_1757 (by decide) ?_
      refine W.lcmp hx hb dL_law_1761 ?_
      refine q_ti (y := nI 0) (by rw [show w9 = 1 by omega]; decide +kernel) ?_
      refine q_eq0 (tgt := 1767) hx hb (by decide) dL_law_1762 (by decide) (fun h9 => ?_) (fun h9 => (by omega))
      refine lv_goto (tgt := 1997) hx hb dL_law_1767 (by decide) ?_
      refine va_forget (fun q hq => hS.2.2 q hq) ?_
      refine W.widen (k := cells + 24) (n := slots + 14000) (by omega) (by omega) ?_
      exact next σ2 R2 ad9 _ ls ⟨hv2, hR2, hw2, hW, hrW, ⟨_, hat1⟩, ⟨_, hat2⟩, hS.forget, hhz⟩ (by rw [hAE 0 0 (by decide) (fun z => absurd z (by decide))]; exact lv_sub hl [2, 3, 4, 5, 6, 7] rfl)
set_option maxHeartbeats 4000000 in
set_option maxRecDepth 100000 in
theorem c_pass (cx : lC p l s m meth c b L xs G es o1 o2 hz A B) {k : Nat} (hk : 8 * k + 8 ≤ L) {σ ρ ad : QSt} {H : Heap} {ls : Array Slot} (hI : lS G es A B bd o1 o2 hz s σ ρ ad H) (hl : lv_has ls 9 [(0, .ref b), (1, .ref (ad 0 0)), (2, .ref (bd 0 0)), (3, .ref o1), (4, .ref o2), (5, .int (nI (8 * k)))]) {cells slots : Nat} {Q : State → Prop} (hroom : cells + 24 ≤ 603072 ∧ slots + 14000 ≤ 7223402)
    (next : ∀ (σ ρ ad : QSt) (H : Heap) (ls : Array Slot), lS G es A B bd o1 o2 hz s σ ρ ad H → lv_has ls 9 [(0, .ref b), (1, .ref (ad 0 0)), (2, .ref (bd 0 0)), (3, .ref o1), (4, .ref o2), (5, .int (nI (8 * k)))] → W p l e room_1 s m #[Value.ref b] below meth c H [] (cells + 24) (slots + 14000) Q (F0 m 1997 ls [])) : W p l e room_1 s m #[Value.ref b] below meth c H [] cells slots Q (F0 m 1770 ls []) := by
  obtain ⟨hx, hb, hml, hown, hts, hlocks, hst, hX, hbl, hC, hZ0, hzT, hzN, hL, hD⟩ := cx
  obtain ⟨hv, hR, hw, hW, hrW, ⟨f1, hat1⟩, ⟨f2, hat2⟩, hS, hhz⟩ := hI
  have hF := hv.1.wf
  have hB := hF.1
  have hn := hF.n
  obtain ⟨x1, hx1⟩ : ∃ x, x = xs (8 * k + 1) := ⟨_, rfl⟩
  obtain ⟨K, mc, ms, fr, lo, fr2, lo2, σ2, R2, v, hK, hmc, hms, ⟨hr1, hr2, hr3, hr4⟩, hv2, hR2, hw2, hK2, hPv, M1, M2⟩ := lk_pass (l := l) (G := G) (es := es) (A := A) (B := B) (σ := σ) (ρ := ρ) (ad := ad) (bd := bd) (o1 := o1) (f1 := f1) hst hv hR hw hD.n1 x1
  refine lv_aload_n hx hb dL_law_1770 rfl (lv_at hl 1 rfl) ?_
  refine lv_aload_n hx hb dL_law_1771 rfl (lv_at hl 0 rfl) ?_
  refine lv_iload hx hb dL_law_1772 (lv_at hl 5 rfl) ?_
  refine lv_iconst (v := nI 1) hx hb dL_law_1774 (by decide) ?_
  refine lv_iadd hx hb dL_law_1775 ?_
  refine q_ti (nI_add (8 * k) 1) ?_
  refine va_sld (i := nI ((8 * k) + 1)) hx hb hX hbl (Nat.not_le.mpr hbl) hS (vp_in_nI (n := 8 * k + 1) (by omega) (by omega)) dL_law_1776 ?_
  refine q_ti (y := x1) (by rw [hx1, nI_clamp (by omega)]) ?_
  refine lv_aload_n hx hb dL_law_1777 rfl (lv_at hl 3 rfl) ?_
  refine q_wv (vx_runSW (As := [.ref (ad 0 0), .int (x1), .ref (o1)]) (rest := []) ⟨hx, hb, hml, hown, hts⟩ M1 (vx_cwSW 3 hts gL_law_L_pass rfl rfl rfl (by decide +kernel) ⟨by show fr + 1 ≤ 21; omega, by show 8 + (4 + 11) + lo ≤ 10922; omega⟩) ⟨qLg.blind, qLg.pre hC hW (hD.z hZ0 hS) (hD.up hhz) hzT hzN hat1⟩ rfl rfl hl.1 rfl (lv_room (Nat.le_of_ble_eq_true rfl)) dL_law_1778 ⟨by show cells + mc ≤ 603072; omega, by show slots + ms ≤ 7223402; omega⟩) hS hD.a1 hD.a1 (fun H1 locs hP9 hz1 hk1 hS => ?_)
  obtain ⟨ad9, hAE, hW, f3, hat1, hv1⟩ := hP9
  have hrW := hD.w1 hrW hk1
  have hat2 := hD.c1 hat2 hk1
  have hhz := Nat.le_trans hhz hz1
  refine lv_istore (lv' := [(6, .int (nI K)), (0, .ref (b)), (1, .ref (ad 0 0)), (2, .ref (bd 0 0)), (3, .ref (o1)), (4, .ref (o2)), (5, .int (nI (8 * k)))]) hx hb dL_law_1781 hl (by decide) rfl (fun ls hl => ?_)
  refine lv_aload_n hx hb dL_law_1783 rfl (lv_at hl 3 rfl) ?_
  refine lv_aload_n hx hb dL_law_1784 rfl (lv_at hl 1 rfl) ?_
  refine lv_iload hx hb dL_law_1785 (lv_at hl 6 rfl) ?_
  refine lv_iconst (v := nI 1) hx hb dL_law_1787 (by decide) ?_
  refine lv_iadd hx hb dL_law_1788 ?_
  refine q_ti (nI_add (8 * k) 1) ?_
  refine va_sld (i := nI ((8 * k) + 1)) hx hb hX hbl (Nat.not_le.mpr hbl) hS (vp_in_nI (n := 8 * k + 1) (by omega) (by omega)) dL_law_1789 ?_
  refine q_ti (y := x1) (by rw [hx1, nI_clamp (by omega)]) ?_
  refine q_wv (va_runV (As := [.int (x1)]) (rest := []) ⟨hx, hb, hml, hown, hts⟩ M2 (cwV 1 hts gL_law_X8_pass rfl rfl rfl (by decide +kernel) ⟨by show fr2 + 1 ≤ 21; omega, by show 8 + (4 + 11) + lo2 ≤ 10922; omega⟩) ⟨rR.blind, qrecv hC (hrW.to rLV0) rfl, rR.pre hC hrW⟩ rfl rfl hl.1 rfl (lv_room (Nat.le_of_ble_eq_true rfl)) dL_law_1790 ⟨by show cells + mc + 0 ≤ 603072; omega, by show slots + ms + 0 ≤ 7223402; omega⟩) hS hD.b hD.b (fun H2 locs hrW hz2 hk2 hS => ?_)
  have hW := hD.wB hW hk2
  have hat1 := hD.k1 hat1 hk2
  have hat2 := hD.k2 hat2 hk2
  have hhz := Nat.le_trans hhz hz2
  refine lv_istore (lv' := [(7, .int (v)), (6, .int (nI K)), (0, .ref (b)), (1, .ref (ad 0 0)), (2, .ref (bd 0 0)), (3, .ref (o1)), (4, .ref (o2)), (5, .int (nI (8 * k)))]) hx hb dL_law_1793 hl (by decide) rfl (fun ls hl => ?_)
  refine lv_aload_n hx hb dL_law_1795 rfl (lv_at hl 4 rfl) ?_
  refine q_v (va_runV (As := []) (rest := []) ⟨hx, hb, hml, hown, hts⟩ (m_rthrown l G B R2 bd hw2) (cwV 0 hts gL_law_X8_thrown rfl rfl rfl (by decide +kernel) ⟨Nat.le_of_ble_eq_true rfl, Nat.le_of_ble_eq_true rfl⟩) ⟨rR.blind, qrecv hC (hrW.to rLV0) rfl, rR.pre hC hrW⟩ rfl rfl hl.1 rfl (lv_room (Nat.le_of_ble_eq_true rfl)) dL_law_1796 ⟨by show cells + mc + 0 + 0 ≤ 603072; omega, by show slots + ms + 0 + 0 ≤ 7223402; omega⟩) hS (fun _ h => h.elim) (fun locs hS => ?_)
  refine q_ti (y := nI K) (by rw [hK2]) ?_
  refine lv_iload hx hb dL_law_1799 (lv_at hl 1 rfl) ?_
  refine q_eq (tgt := 1806) hx hb (by omega) (by omega) dL_law_1801 (by decide) (fun h5 => ?_) (fun h5 => (by omega))
  refine lv_iload hx hb dL_law_1806 (lv_at hl 1 rfl) ?_
  refine q_ne0 (tgt := 1823) hx hb (by omega) dL_law_1808 (by decide) (fun h6 => ?_) (fun h6 => ?_)
  · skip
    refine lv_goto (tgt := 1997) hx hb dL_law_1823 (by decide) ?_
    refine va_forget (fun q hq => hS.2.2 q hq) ?_
    refine W.widen (k := cells + 24) (n := slots + 14000) (by omega) (by omega) ?_
    exact next σ2 R2 ad9 _ ls ⟨hv2, hR2, hw2, hW, hrW, ⟨_, hat1⟩, ⟨_, hat2⟩, hS.forget, hhz⟩ (by rw [hAE 0 0 (by decide) (fun z => absurd z (by decide))]; exact lv_sub hl [2, 3, 4, 5, 6, 7] rfl)
  · skip
    refine lv_aload_n hx hb dL_law_1811 rfl (lv_at hl 5 rfl) ?_
    refine lv_iconst (v := nI 0) hx hb dL_law_1812 (by decide) ?_
    refine r_lald hx hb hC.1 hat1 2 rfl (i := 0) (by decide) (by decide) (v := (v).toInt64) (hv1 h6) dL_law_1813 ?_
    refine lv_iload hx hb dL_law_1814 (lv_at hl 0 rfl) ?_
    refine lv_i2l (v := (v).toInt64) hx hb dL_law_1816 rfl ?_
    refine W.lcmp hx hb dL_law_1817 ?_
    refine q_ti (y := nI 0) (l_cmp _) ?_
    refine q_eq0 (tgt := 1823) hx hb (by decide) dL_law_1818 (by decide) (fun h9 => ?_) (fun h9 => (by omega))
    refine lv_goto (tgt := 1997) hx hb dL_law_1823 (by decide) ?_
    refine va_forget (fun q hq => hS.2.2 q hq) ?_
    refine W.widen (k := cells + 24) (n := slots + 14000) (by omega) (by omega) ?_
    exact next σ2 R2 ad9 _ ls ⟨hv2, hR2, hw2, hW, hrW, ⟨_, hat1⟩, ⟨_, hat2⟩, hS.forget, hhz⟩ (by rw [hAE 0 0 (by decide) (fun z => absurd z (by decide))]; exact lv_sub hl [2, 3, 4, 5, 6, 7] rfl)
set_option maxHeartbeats 4000000 in
set_option maxRecDepth 100000 in
theorem c_tick (cx : lC p l s m meth c b L xs G es o1 o2 hz A B) {k : Nat} (hk : 8 * k + 8 ≤ L) {σ ρ ad : QSt} {H : Heap} {ls : Array Slot} (hI : lS G es A B bd o1 o2 hz s σ ρ ad H) (hl : lv_has ls 9 [(0, .ref b), (1, .ref (ad 0 0)), (2, .ref (bd 0 0)), (3, .ref o1), (4, .ref o2), (5, .int (nI (8 * k)))]) {cells slots : Nat} {Q : State → Prop} (hroom : cells + 24 ≤ 603072 ∧ slots + 14000 ≤ 7223402)
    (next : ∀ (σ ρ ad : QSt) (H : Heap) (ls : Array Slot), lS G es A B bd o1 o2 hz s σ ρ ad H → lv_has ls 9 [(0, .ref b), (1, .ref (ad 0 0)), (2, .ref (bd 0 0)), (3, .ref o1), (4, .ref o2), (5, .int (nI (8 * k)))] → W p l e room_1 s m #[Value.ref b] below meth c H [] (cells + 24) (slots + 14000) Q (F0 m 1997 ls [])) : W p l e room_1 s m #[Value.ref b] below meth c H [] cells slots Q (F0 m 1826 ls []) := by
  obtain ⟨hx, hb, hml, hown, hts, hlocks, hst, hX, hbl, hC, hZ0, hzT, hzN, hL, hD⟩ := cx
  obtain ⟨hv, hR, hw, hW, hrW, ⟨f1, hat1⟩, ⟨f2, hat2⟩, hS, hhz⟩ := hI
  have hF := hv.1.wf
  have hB := hF.1
  have hn := hF.n
  refine lv_aload_n hx hb dL_law_1826 rfl (lv_at hl 1 rfl) ?_
  refine q_v (va_runV (As := []) (rest := []) ⟨hx, hb, hml, hown, hts⟩ (m_tick l G es A σ ad hF) (cwV 0 hts gL_law_X7_tick rfl rfl rfl (by decide +kernel) ⟨Nat.le_of_ble_eq_true rfl, Nat.le_of_ble_eq_true rfl⟩) ⟨qR.blind, qrecv hC (hW.to qLV0) rfl, qR.pre hC hW⟩ rfl rfl hl.1 rfl (lv_room (Nat.le_of_ble_eq_true rfl)) dL_law_1827 ⟨by show cells + 0 ≤ 603072; omega, by show slots + 0 ≤ 7223402; omega⟩) hS (fun _ h => h.elim) (fun locs hS => ?_)
  refine lv_aload_n hx hb dL_law_1830 rfl (lv_at hl 2 rfl) ?_
  refine q_wv (va_runV (As := []) (rest := [.int (nI (σ 1 0))]) ⟨hx, hb, hml, hown, hts⟩ (m_rtick l G B ρ bd (rT_wf hw)) (cwV 0 hts gL_law_X8_tick rfl rfl rfl (by decide +kernel) ⟨Nat.le_of_ble_eq_true rfl, Nat.le_of_ble_eq_true rfl⟩) ⟨rR.blind, qrecv hC (hrW.to rLV0) rfl, rR.pre hC hrW⟩ rfl rfl hl.1 rfl (lv_room (Nat.le_of_ble_eq_true rfl)) dL_law_1831 ⟨by show cells + 0 ≤ 603072; omega, by show slots + 0 ≤ 7223402; omega⟩) hS hD.b hD.b (fun H2 locs hrW hz2 hk2 hS => ?_)
  have hW := hD.wB hW hk2
  have hat1 := hD.k1 hat1 hk2
  have hat2 := hD.k2 hat2 hk2
  have hhz := Nat.le_trans hhz hz2
  refine q_ti (y := nI (σ 1 0)) (by rw [(l_rT hR).t]) ?_
  refine q_eq (tgt := 1997) hx hb (q31 (hB _ _)) (q31 (hB _ _)) dL_law_1834 (by decide) (fun h5 => ?_) (fun h5 => (by omega))
  refine va_forget (fun q hq => hS.2.2 q hq) ?_
  refine W.widen (k := cells + 24) (n := slots + 14000) (by omega) (by omega) ?_
  exact next σ (rT ρ) ad _ ls ⟨hv, l_rT hR, rT_wf hw, hW, hrW, ⟨_, hat1⟩, ⟨_, hat2⟩, hS.forget, hhz⟩ (lv_sub hl [0, 1, 2, 3, 4, 5] rfl)
set_option maxHeartbeats 4000000 in
set_option maxRecDepth 100000 in
theorem c_bytes (cx : lC p l s m meth c b L xs G es o1 o2 hz A B) {k : Nat} (hk : 8 * k + 8 ≤ L) {σ ρ ad : QSt} {H : Heap} {ls : Array Slot} (hI : lS G es A B bd o1 o2 hz s σ ρ ad H) (hl : lv_has ls 9 [(0, .ref b), (1, .ref (ad 0 0)), (2, .ref (bd 0 0)), (3, .ref o1), (4, .ref o2), (5, .int (nI (8 * k)))]) {cells slots : Nat} {Q : State → Prop} (hroom : cells + 24 ≤ 603072 ∧ slots + 14000 ≤ 7223402)
    (next : ∀ (σ ρ ad : QSt) (H : Heap) (ls : Array Slot), lS G es A B bd o1 o2 hz s σ ρ ad H → lv_has ls 9 [(0, .ref b), (1, .ref (ad 0 0)), (2, .ref (bd 0 0)), (3, .ref o1), (4, .ref o2), (5, .int (nI (8 * k)))] → W p l e room_1 s m #[Value.ref b] below meth c H [] (cells + 24) (slots + 14000) Q (F0 m 1997 ls [])) : W p l e room_1 s m #[Value.ref b] below meth c H [] cells slots Q (F0 m 1839 ls []) := by
  obtain ⟨hx, hb, hml, hown, hts, hlocks, hst, hX, hbl, hC, hZ0, hzT, hzN, hL, hD⟩ := cx
  obtain ⟨hv, hR, hw, hW, hrW, ⟨f1, hat1⟩, ⟨f2, hat2⟩, hS, hhz⟩ := hI
  have hF := hv.1.wf
  have hB := hF.1
  have hn := hF.n
  refine lv_aload_n hx hb dL_law_1839 rfl (lv_at hl 1 rfl) ?_
  refine q_v (va_runV (As := []) (rest := []) ⟨hx, hb, hml, hown, hts⟩ (m_bytes l G es A σ ad hF) (cwV 0 hts gL_law_X7_bytes rfl rfl rfl (by decide +kernel) ⟨Nat.le_of_ble_eq_true rfl, Nat.le_of_ble_eq_true rfl⟩) ⟨qR.blind, qrecv hC (hW.to qLV0) rfl, qR.pre hC hW⟩ rfl rfl hl.1 rfl (lv_room (Nat.le_of_ble_eq_true rfl)) dL_law_1840 ⟨by show cells + 0 ≤ 603072; omega, by show slots + 0 ≤ 7223402; omega⟩) hS (fun _ h => h.elim) (fun locs hS => ?_)
  refine lv_aload_n hx hb dL_law_1843 rfl (lv_at hl 2 rfl) ?_
  refine q_wv (va_runV (As := []) (rest := [.long (lN (qsum (fun l => σ 66 l) (σ 0 0)))]) ⟨hx, hb, hml, hown, hts⟩ (m_rbytes l G B ρ bd (rT_wf hw)) (cwV 0 hts gL_law_X8_bytes rfl rfl rfl (by decide +kernel) ⟨Nat.le_of_ble_eq_true rfl, Nat.le_of_ble_eq_true rfl⟩) ⟨rR.blind, qrecv hC (hrW.to rLV0) rfl, rR.pre hC hrW⟩ rfl rfl hl.1 rfl (lv_room (Nat.le_of_ble_eq_true rfl)) dL_law_1844 ⟨by show cells + 0 ≤ 603072; omega, by show slots + 0 ≤ 7223402; omega⟩) hS hD.b hD.b (fun H2 locs hrW hz2 hk2 hS => ?_)
  have hW := hD.wB hW hk2
  have hat1 := hD.k1 hat1 hk2
  have hat2 := hD.k2 hat2 hk2
  have hhz := Nat.le_trans hhz hz2
  refine q_tl (y := lN (qsum (fun l => σ 66 l) (σ 0 0))) (by rw [l_byt (l_rT hR)]) ?_
  refine W.lcmp hx hb dL_law_1847 ?_
  refine q_ti (y := nI 0) (l_cmp _) ?_
  refine q_eq0 (tgt := 1997) hx hb (by decide) dL_law_1848 (by decide) (fun h5 => ?_) (fun h5 => (by omega))
  refine va_forget (fun q hq => hS.2.2 q hq) ?_
  refine W.widen (k := cells + 24) (n := slots + 14000) (by omega) (by omega) ?_
  exact next σ (rT ρ) ad _ ls ⟨hv, l_rT hR, rT_wf hw, hW, hrW, ⟨_, hat1⟩, ⟨_, hat2⟩, hS.forget, hhz⟩ (lv_sub hl [0, 1, 2, 3, 4, 5] rfl)
set_option maxHeartbeats 4000000 in
set_option maxRecDepth 100000 in
theorem c_droppedShare (cx : lC p l s m meth c b L xs G es o1 o2 hz A B) {k : Nat} (hk : 8 * k + 8 ≤ L) {σ ρ ad : QSt} {H : Heap} {ls : Array Slot} (hI : lS G es A B bd o1 o2 hz s σ ρ ad H) (hl : lv_has ls 9 [(0, .ref b), (1, .ref (ad 0 0)), (2, .ref (bd 0 0)), (3, .ref o1), (4, .ref o2), (5, .int (nI (8 * k)))]) {cells slots : Nat} {Q : State → Prop} (hroom : cells + 24 ≤ 603072 ∧ slots + 14000 ≤ 7223402)
    (next : ∀ (σ ρ ad : QSt) (H : Heap) (ls : Array Slot), lS G es A B bd o1 o2 hz s σ ρ ad H → lv_has ls 9 [(0, .ref b), (1, .ref (ad 0 0)), (2, .ref (bd 0 0)), (3, .ref o1), (4, .ref o2), (5, .int (nI (8 * k)))] → W p l e room_1 s m #[Value.ref b] below meth c H [] (cells + 24) (slots + 14000) Q (F0 m 1997 ls [])) : W p l e room_1 s m #[Value.ref b] below meth c H [] cells slots Q (F0 m 1853 ls []) := by
  obtain ⟨hx, hb, hml, hown, hts, hlocks, hst, hX, hbl, hC, hZ0, hzT, hzN, hL, hD⟩ := cx
  obtain ⟨hv, hR, hw, hW, hrW, ⟨f1, hat1⟩, ⟨f2, hat2⟩, hS, hhz⟩ := hI
  have hF := hv.1.wf
  have hB := hF.1
  have hn := hF.n
  obtain ⟨K, mc, ms, fr, lo, fr2, lo2, R2, x9, hK, hmc, hms, ⟨hr1, hr2, hr3, hr4⟩, hR2, hw2, hK2, hPv, M1, M2⟩ := lk_droppedShare (l := l) (G := G) (es := es) (A := A) (B := B) (σ := σ) (ρ := ρ) (ad := ad) (bd := bd) (o2 := o2) (f2 := f2) hst hv hR hw hD.n2
  refine lv_aload_n hx hb dL_law_1853 rfl (lv_at hl 1 rfl) ?_
  refine lv_aload hx hb dL_law_1854 (lv_at hl 4 rfl) ?_
  refine q_wv (vx_runSW (As := [.ref (ad 0 0), .ref (o2)]) (rest := []) ⟨hx, hb, hml, hown, hts⟩ M1 (vx_cwSW 2 hts gL_law_L_droppedShare rfl rfl rfl (by decide +kernel) ⟨by show fr + 1 ≤ 21; omega, by show 8 + (3 + 11) + lo ≤ 10922; omega⟩) ⟨qLg.blind, qLg.pre hC hW (hD.z hZ0 hS) (hD.up hhz) hzT hzN hat2⟩ rfl rfl hl.1 rfl (lv_room (Nat.le_of_ble_eq_true rfl)) dL_law_1856 ⟨by show cells + mc ≤ 603072; omega, by show slots + ms ≤ 7223402; omega⟩) hS hD.a2 hD.a2 (fun H1 locs hP9 hz1 hk1 hS => ?_)
  obtain ⟨hW, f3, hat2, hv1⟩ := hP9
  have hrW := hD.w2 hrW hk1
  have hat1 := hD.c2 hat1 hk1
  have hhz := Nat.le_trans hhz hz1
  refine lv_istore (lv' := [(6, .int (nI K)), (0, .ref (b)), (1, .ref (ad 0 0)), (2, .ref (bd 0 0)), (3, .ref (o1)), (4, .ref (o2)), (5, .int (nI (8 * k)))]) hx hb dL_law_1859 hl (by decide) rfl (fun ls hl => ?_)
  refine lv_aload_n hx hb dL_law_1861 rfl (lv_at hl 3 rfl) ?_
  refine q_wv (va_runV (As := []) (rest := []) ⟨hx, hb, hml, hown, hts⟩ M2 (cwV 0 hts gL_law_X8_droppedShare rfl rfl rfl (by decide +kernel) ⟨by show fr2 + 1 ≤ 21; omega, by show 8 + (1 + 11) + lo2 ≤ 10922; omega⟩) ⟨rR.blind, qrecv hC (hrW.to rLV0) rfl, rR.pre hC hrW⟩ rfl rfl hl.1 rfl (lv_room (Nat.le_of_ble_eq_true rfl)) dL_law_1862 ⟨by show cells + mc + 0 ≤ 603072; omega, by show slots + ms + 0 ≤ 7223402; omega⟩) hS hD.b hD.b (fun H2 locs hrW hz2 hk2 hS => ?_)
  have hW := hD.wB hW hk2
  have hat1 := hD.k1 hat1 hk2
  have hat2 := hD.k2 hat2 hk2
  have hhz := Nat.le_trans hhz hz2
  refine lv_fstore (lv' := [(7, .float (x9)), (6, .int (nI K)), (0, .ref (b)), (1, .ref (ad 0 0)), (2, .ref (bd 0 0)), (3, .ref (o1)), (4, .ref (o2)), (5, .int (nI (8 * k)))]) hx hb dL_law_1865 hl (by decide) rfl (fun ls hl => ?_)
  refine lv_aload_n hx hb dL_law_1867 rfl (lv_at hl 4 rfl) ?_
  refine q_v (va_runV (As := []) (rest := []) ⟨hx, hb, hml, hown, hts⟩ (m_rthrown l G B R2 bd hw2) (cwV 0 hts gL_law_X8_thrown rfl rfl rfl (by decide +kernel) ⟨Nat.le_of_ble_eq_true rfl, Nat.le_of_ble_eq_true rfl⟩) ⟨rR.blind, qrecv hC (hrW.to rLV0) rfl, rR.pre hC hrW⟩ rfl rfl hl.1 rfl (lv_room (Nat.le_of_ble_eq_true rfl)) dL_law_1868 ⟨by show cells + mc + 0 + 0 ≤ 603072; omega, by show slots + ms + 0 + 0 ≤ 7223402; omega⟩) hS (fun _ h => h.elim) (fun locs hS => ?_)
  refine q_ti (y := nI K) (by rw [hK2]) ?_
  refine lv_iload hx hb dL_law_1871 (lv_at hl 1 rfl) ?_
  refine q_eq (tgt := 1878) hx hb (by omega) (by omega) dL_law_1873 (by decide) (fun h5 => ?_) (fun h5 => (by omega))
  refine lv_iload hx hb dL_law_1878 (lv_at hl 1 rfl) ?_
  refine q_ne0 (tgt := 1916) hx hb (by omega) dL_law_1880 (by decide) (fun h6 => ?_) (fun h6 => ?_)
  · skip
    refine lv_goto (tgt := 1997) hx hb dL_law_1916 (by decide) ?_
    refine va_forget (fun q hq => hS.2.2 q hq) ?_
    refine W.widen (k := cells + 24) (n := slots + 14000) (by omega) (by omega) ?_
    exact next σ R2 ad _ ls ⟨hv, hR2, hw2, hW, hrW, ⟨_, hat1⟩, ⟨_, hat2⟩, hS.forget, hhz⟩ (lv_sub hl [2, 3, 4, 5, 6, 7] rfl)
  · skip
    refine lv_aload hx hb dL_law_1883 (lv_at hl 6 rfl) ?_
    refine lv_iconst (v := nI 0) hx hb dL_law_1885 (by decide) ?_
    have hd9 : vf_n64 (FP.f2d x9) := rfl_f2d (hPv h6)
    refine va_dald hx hb hC.1 (va_P1 hat2) 0 5 rfl rfl (vp_in_nI (n := 0) (by decide) (by decide)) dL_law_1886 ?_
    refine q_t (w := .double (FP.f2d x9)) (by rw [nI_clamp (by decide), hv1 h6]) ?_
    refine lv_fload hx hb dL_law_1887 (lv_at hl 0 rfl) ?_
    refine lv_f2d hx hb dL_law_1889 (rfl_f2d (hPv h6)) ?_
    refine lv_dcmp hx hb dL_law_1890 ?_
    refine q_ti (y := nI 0) ((rfl_cmp hd9 _).trans nI_0.symm) ?_
    refine q_eq0 (tgt := 1916) hx hb (by decide) dL_law_1891 (by decide) (fun h9 => ?_) (fun h9 => (by omega))
    refine lv_goto (tgt := 1997) hx hb dL_law_1916 (by decide) ?_
    refine va_forget (fun q hq => hS.2.2 q hq) ?_
    refine W.widen (k := cells + 24) (n := slots + 14000) (by omega) (by omega) ?_
    exact next σ R2 ad _ ls ⟨hv, hR2, hw2, hW, hrW, ⟨_, hat1⟩, ⟨_, hat2⟩, hS.forget, hhz⟩ (lv_sub hl [2, 3, 4, 5, 6, 7] rfl)
set_option maxHeartbeats 4000000 in
set_option maxRecDepth 100000 in
theorem c_meanRank (cx : lC p l s m meth c b L xs G es o1 o2 hz A B) {k : Nat} (hk : 8 * k + 8 ≤ L) {σ ρ ad : QSt} {H : Heap} {ls : Array Slot} (hI : lS G es A B bd o1 o2 hz s σ ρ ad H) (hl : lv_has ls 9 [(0, .ref b), (1, .ref (ad 0 0)), (2, .ref (bd 0 0)), (3, .ref o1), (4, .ref o2), (5, .int (nI (8 * k)))]) {cells slots : Nat} {Q : State → Prop} (hroom : cells + 24 ≤ 603072 ∧ slots + 14000 ≤ 7223402)
    (next : ∀ (σ ρ ad : QSt) (H : Heap) (ls : Array Slot), lS G es A B bd o1 o2 hz s σ ρ ad H → lv_has ls 9 [(0, .ref b), (1, .ref (ad 0 0)), (2, .ref (bd 0 0)), (3, .ref o1), (4, .ref o2), (5, .int (nI (8 * k)))] → W p l e room_1 s m #[Value.ref b] below meth c H [] (cells + 24) (slots + 14000) Q (F0 m 1997 ls [])) : W p l e room_1 s m #[Value.ref b] below meth c H [] cells slots Q (F0 m 1919 ls []) := by
  obtain ⟨hx, hb, hml, hown, hts, hlocks, hst, hX, hbl, hC, hZ0, hzT, hzN, hL, hD⟩ := cx
  obtain ⟨hv, hR, hw, hW, hrW, ⟨f1, hat1⟩, ⟨f2, hat2⟩, hS, hhz⟩ := hI
  have hF := hv.1.wf
  have hB := hF.1
  have hn := hF.n
  obtain ⟨K, mc, ms, fr, lo, fr2, lo2, R2, x9, hK, hmc, hms, ⟨hr1, hr2, hr3, hr4⟩, hR2, hw2, hK2, hPv, M1, M2⟩ := lk_meanRank (l := l) (G := G) (es := es) (A := A) (B := B) (σ := σ) (ρ := ρ) (ad := ad) (bd := bd) (o2 := o2) (f2 := f2) hst hv hR hw hD.n2
  refine lv_aload_n hx hb dL_law_1919 rfl (lv_at hl 1 rfl) ?_
  refine lv_aload hx hb dL_law_1920 (lv_at hl 4 rfl) ?_
  refine q_wv (vx_runSW (As := [.ref (ad 0 0), .ref (o2)]) (rest := []) ⟨hx, hb, hml, hown, hts⟩ M1 (vx_cwSW 2 hts gL_law_L_meanRank rfl rfl rfl (by decide +kernel) ⟨by show fr + 1 ≤ 21; omega, by show 8 + (3 + 11) + lo ≤ 10922; omega⟩) ⟨qLg.blind, qLg.pre hC hW (hD.z hZ0 hS) (hD.up hhz) hzT hzN hat2⟩ rfl rfl hl.1 rfl (lv_room (Nat.le_of_ble_eq_true rfl)) dL_law_1922 ⟨by show cells + mc ≤ 603072; omega, by show slots + ms ≤ 7223402; omega⟩) hS hD.a2 hD.a2 (fun H1 locs hP9 hz1 hk1 hS => ?_)
  obtain ⟨hW, f3, hat2, hv1⟩ := hP9
  have hrW := hD.w2 hrW hk1
  have hat1 := hD.c2 hat1 hk1
  have hhz := Nat.le_trans hhz hz1
  refine lv_istore (lv' := [(6, .int (nI K)), (0, .ref (b)), (1, .ref (ad 0 0)), (2, .ref (bd 0 0)), (3, .ref (o1)), (4, .ref (o2)), (5, .int (nI (8 * k)))]) hx hb dL_law_1925 hl (by decide) rfl (fun ls hl => ?_)
  refine lv_aload_n hx hb dL_law_1927 rfl (lv_at hl 3 rfl) ?_
  refine q_wv (va_runV (As := []) (rest := []) ⟨hx, hb, hml, hown, hts⟩ M2 (cwV 0 hts gL_law_X8_meanRank rfl rfl rfl (by decide +kernel) ⟨by show fr2 + 1 ≤ 21; omega, by show 8 + (3 + 11) + lo2 ≤ 10922; omega⟩) ⟨rR.blind, qrecv hC (hrW.to rLV0) rfl, rR.pre hC hrW⟩ rfl rfl hl.1 rfl (lv_room (Nat.le_of_ble_eq_true rfl)) dL_law_1928 ⟨by show cells + mc + 0 ≤ 603072; omega, by show slots + ms + 0 ≤ 7223402; omega⟩) hS hD.b hD.b (fun H2 locs hrW hz2 hk2 hS => ?_)
  have hW := hD.wB hW hk2
  have hat1 := hD.k1 hat1 hk2
  have hat2 := hD.k2 hat2 hk2
  have hhz := Nat.le_trans hhz hz2
  refine lv_dstore (lv' := [(7, .double (x9)), (6, .int (nI K)), (0, .ref (b)), (1, .ref (ad 0 0)), (2, .ref (bd 0 0)), (3, .ref (o1)), (4, .ref (o2)), (5, .int (nI (8 * k)))]) hx hb dL_law_1931 hl (by decide) rfl (fun ls hl => ?_)
  refine lv_aload_n hx hb dL_law_1933 rfl (lv_at hl 4 rfl) ?_
  refine q_v (va_runV (As := []) (rest := []) ⟨hx, hb, hml, hown, hts⟩ (m_rthrown l G B R2 bd hw2) (cwV 0 hts gL_law_X8_thrown rfl rfl rfl (by decide +kernel) ⟨Nat.le_of_ble_eq_true rfl, Nat.le_of_ble_eq_true rfl⟩) ⟨rR.blind, qrecv hC (hrW.to rLV0) rfl, rR.pre hC hrW⟩ rfl rfl hl.1 rfl (lv_room (Nat.le_of_ble_eq_true rfl)) dL_law_1934 ⟨by show cells + mc + 0 + 0 ≤ 603072; omega, by show slots + ms + 0 + 0 ≤ 7223402; omega⟩) hS (fun _ h => h.elim) (fun locs hS => ?_)
  refine q_ti (y := nI K) (by rw [hK2]) ?_
  refine lv_iload hx hb dL_law_1937 (lv_at hl 1 rfl) ?_
  refine q_eq (tgt := 1944) hx hb (by omega) (by omega) dL_law_1939 (by decide) (fun h5 => ?_) (fun h5 => (by omega))
  refine lv_iload hx hb dL_law_1944 (lv_at hl 1 rfl) ?_
  refine q_ne0 (tgt := 1981) hx hb (by omega) dL_law_1946 (by decide) (fun h6 => ?_) (fun h6 => ?_)
  · skip
    refine lv_goto (tgt := 1997) hx hb dL_law_1981 (by decide) ?_
    refine va_forget (fun q hq => hS.2.2 q hq) ?_
    refine W.widen (k := cells + 24) (n := slots + 14000) (by omega) (by omega) ?_
    exact next σ R2 ad _ ls ⟨hv, hR2, hw2, hW, hrW, ⟨_, hat1⟩, ⟨_, hat2⟩, hS.forget, hhz⟩ (lv_sub hl [2, 3, 4, 5, 6, 7] rfl)
  · skip
    refine lv_aload hx hb dL_law_1949 (lv_at hl 6 rfl) ?_
    refine lv_iconst (v := nI 0) hx hb dL_law_1951 (by decide) ?_
    have hd9 : vf_n64 (x9) := hPv h6
    refine va_dald hx hb hC.1 (va_P1 hat2) 0 5 rfl rfl (vp_in_nI (n := 0) (by decide) (by decide)) dL_law_1952 ?_
    refine q_t (w := .double (x9)) (by rw [nI_clamp (by decide), hv1 h6]) ?_
    refine lv_dload hx hb dL_law_1953 (lv_at hl 0 rfl) ?_
    refine lv_dcmp hx hb dL_law_1955 ?_
    refine q_ti (y := nI 0) ((rfl_cmp hd9 _).trans nI_0.symm) ?_
    refine q_eq0 (tgt := 1981) hx hb (by decide) dL_law_1956 (by decide) (fun h9 => ?_) (fun h9 => (by omega))
    refine lv_goto (tgt := 1997) hx hb dL_law_1981 (by decide) ?_
    refine va_forget (fun q hq => hS.2.2 q hq) ?_
    refine W.widen (k := cells + 24) (n := slots + 14000) (by omega) (by omega) ?_
    exact next σ R2 ad _ ls ⟨hv, hR2, hw2, hW, hrW, ⟨_, hat1⟩, ⟨_, hat2⟩, hS.forget, hhz⟩ (lv_sub hl [2, 3, 4, 5, 6, 7] rfl)
set_option maxHeartbeats 4000000 in
set_option maxRecDepth 100000 in
theorem c_isSound (cx : lC p l s m meth c b L xs G es o1 o2 hz A B) {k : Nat} (hk : 8 * k + 8 ≤ L) {σ ρ ad : QSt} {H : Heap} {ls : Array Slot} (hI : lS G es A B bd o1 o2 hz s σ ρ ad H) (hl : lv_has ls 9 [(0, .ref b), (1, .ref (ad 0 0)), (2, .ref (bd 0 0)), (3, .ref o1), (4, .ref o2), (5, .int (nI (8 * k)))]) {cells slots : Nat} {Q : State → Prop} (hroom : cells + 24 ≤ 603072 ∧ slots + 14000 ≤ 7223402)
    (next : ∀ (σ ρ ad : QSt) (H : Heap) (ls : Array Slot), lS G es A B bd o1 o2 hz s σ ρ ad H → lv_has ls 9 [(0, .ref b), (1, .ref (ad 0 0)), (2, .ref (bd 0 0)), (3, .ref o1), (4, .ref o2), (5, .int (nI (8 * k)))] → W p l e room_1 s m #[Value.ref b] below meth c H [] (cells + 24) (slots + 14000) Q (F0 m 1997 ls [])) : W p l e room_1 s m #[Value.ref b] below meth c H [] cells slots Q (F0 m 1984 ls []) := by
  obtain ⟨hx, hb, hml, hown, hts, hlocks, hst, hX, hbl, hC, hZ0, hzT, hzN, hL, hD⟩ := cx
  obtain ⟨hv, hR, hw, hW, hrW, ⟨f1, hat1⟩, ⟨f2, hat2⟩, hS, hhz⟩ := hI
  have hF := hv.1.wf
  have hB := hF.1
  have hn := hF.n
  refine lv_aload_n hx hb dL_law_1984 rfl (lv_at hl 1 rfl) ?_
  refine q_v (va_runV (As := []) (rest := []) ⟨hx, hb, hml, hown, hts⟩ (m_isSound l G es A σ ad hF (l_snd hv).1 (l_snd hv).2.1 (l_snd hv).2.2) (cwV 0 hts gL_law_X7_isSound rfl rfl rfl (by decide +kernel) ⟨Nat.le_of_ble_eq_true rfl, Nat.le_of_ble_eq_true rfl⟩) ⟨qR.blind, qrecv hC (hW.to qLV0) rfl, qR.pre hC hW⟩ rfl rfl hl.1 rfl (lv_room (Nat.le_of_ble_eq_true rfl)) dL_law_1985 ⟨by show cells + 0 ≤ 603072; omega, by show slots + 0 ≤ 7223402; omega⟩) hS (fun _ h => h.elim) (fun locs hS => ?_)
  refine lv_aload_n hx hb dL_law_1988 rfl (lv_at hl 2 rfl) ?_
  refine q_wv (va_runV (As := []) (rest := [.int (nI 1)]) ⟨hx, hb, hml, hown, hts⟩ (m_risSound l G B ρ bd (rT_wf hw)) (cwV 0 hts gL_law_X8_isSound rfl rfl rfl (by decide +kernel) ⟨Nat.le_of_ble_eq_true rfl, Nat.le_of_ble_eq_true rfl⟩) ⟨rR.blind, qrecv hC (hrW.to rLV0) rfl, rR.pre hC hrW⟩ rfl rfl hl.1 rfl (lv_room (Nat.le_of_ble_eq_true rfl)) dL_law_1989 ⟨by show cells + 0 ≤ 603072; omega, by show slots + 0 ≤ 7223402; omega⟩) hS hD.b hD.b (fun H2 locs hrW hz2 hk2 hS => ?_)
  have hW := hD.wB hW hk2
  have hat1 := hD.k1 hat1 hk2
  have hat2 := hD.k2 hat2 hk2
  have hhz := Nat.le_trans hhz hz2
  refine q_eq (tgt := 1997) hx hb (by decide) (by decide) dL_law_1992 (by decide) (fun h5 => ?_) (fun h5 => (by omega))
  refine va_forget (fun q hq => hS.2.2 q hq) ?_
  refine W.widen (k := cells + 24) (n := slots + 14000) (by omega) (by omega) ?_
  exact next σ (rT ρ) ad _ ls ⟨hv, l_rT hR, rT_wf hw, hW, hrW, ⟨_, hat1⟩, ⟨_, hat2⟩, hS.forget, hhz⟩ (lv_sub hl [0, 1, 2, 3, 4, 5] rfl)
end CS
