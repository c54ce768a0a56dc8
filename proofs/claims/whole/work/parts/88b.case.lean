section CS
variable {p : Program} {l : Launch} {e : Env} {s : State} {m : MethodId} {below : List Frame} {meth : Method} {c : Code} {b L : Nat} {xs : Nat → Int32} {G : QG} {es o1 o2 hz : Nat} {A B : Nat → Prop} {bd : QSt}
set_option maxHeartbeats 4000000 in
set_option maxRecDepth 100000 in
theorem c_setBudget (cx : lC p l s m meth c b L xs G es o1 o2 hz A B) {k : Nat} (hk : 8 * k + 8 ≤ L) {σ ρ ad : QSt} {H : Heap} {ls : Array Slot} (hI : lS G es A B bd o1 o2 hz s σ ρ ad H) (hl : lv_has ls 9 [(0, .ref b), (1, .ref (ad 0 0)), (2, .ref (bd 0 0)), (3, .ref o1), (4, .ref o2), (5, .int (nI (8 * k)))]) {cells slots : Nat} {Q : State → Prop} (hroom : cells + 24 ≤ 603072 ∧ slots + 14000 ≤ 7223402)
    (next : ∀ (σ ρ ad : QSt) (H : Heap) (ls : Array Slot), lS G es A B bd o1 o2 hz s σ ρ ad H → lv_has ls 9 [(0, .ref b), (1, .ref (ad 0 0)), (2, .ref (bd 0 0)), (3, .ref o1), (4, .ref o2), (5, .int (nI (8 * k)))] → W p l e room_1 s m #[Value.ref b] below meth c H [] (cells + 24) (slots + 14000) Q (F0 m 1997 ls [])) : W p l e room_1 s m #[Value.ref b] below meth c H [] cells slots Q (F0 m 679 ls []) := by
  obtain ⟨hx, hb, hml, hown, hts, hlocks, hst, hX, hbl, hC, hZ0, hzT, hzN, hL, hD⟩ := cx
  obtain ⟨hv, hR, hw, hW, hrW, ⟨f1, hat1⟩, ⟨f2, hat2⟩, hS, hhz⟩ := hI
  have hF := hv.1.wf
  have hB := hF.1
  have hn := hF.n
  obtain ⟨x1, hx1⟩ : ∃ x, x = xs (8 * k + 1) := ⟨_, rfl⟩
  obtain ⟨x2, hx2⟩ : ∃ x, x = xs (8 * k + 2) := ⟨_, rfl⟩
  obtain ⟨K, mc, ms, fr, lo, fr2, lo2, σ2, R2, v, hK, hmc, hms, ⟨hr1, hr2, hr3, hr4⟩, hv2, hR2, hw2, hK2, hPv, M1, M2⟩ := lk_setBudget (l := l) (G := G) (es := es) (A := A) (B := B) (σ := σ) (ρ := ρ) (ad := ad) (bd := bd) (o1 := o1) (f1 := f1) hst hv hR hw hD.n1 x1 x2
  refine lv_aload_n hx hb dL_law_679 rfl (lv_at hl 1 rfl) ?_
  refine lv_aload_n hx hb dL_law_680 rfl (lv_at hl 0 rfl) ?_
  refine lv_iload hx hb dL_law_681 (lv_at hl 5 rfl) ?_
  refine lv_iconst (v := nI 1) hx hb dL_law_683 (by decide) ?_
  refine lv_iadd hx hb dL_law_684 ?_
  refine q_ti (nI_add (8 * k) 1) ?_
  refine va_sld (i := nI ((8 * k) + 1)) hx hb hX hbl (Nat.not_le.mpr hbl) hS (vp_in_nI (n := 8 * k + 1) (by omega) (by omega)) dL_law_685 ?_
  refine q_ti (y := x1) (by rw [hx1, nI_clamp (by omega)]) ?_
  refine lv_aload_n hx hb dL_law_686 rfl (lv_at hl 0 rfl) ?_
  refine lv_iload hx hb dL_law_687 (lv_at hl 5 rfl) ?_
  refine lv_iconst (v := nI 2) hx hb dL_law_689 (by decide) ?_
  refine lv_iadd hx hb dL_law_690 ?_
  refine q_ti (nI_add (8 * k) 2) ?_
  refine va_sld (i := nI ((8 * k) + 2)) hx hb hX hbl (Nat.not_le.mpr hbl) hS (vp_in_nI (n := 8 * k + 2) (by omega) (by omega)) dL_law_691 ?_
  refine q_ti (y := x2) (by rw [hx2, nI_clamp (by omega)]) ?_
  refine lv_aload_n hx hb dL_law_692 rfl (lv_at hl 3 rfl) ?_
  refine q_wv (vx_runSW (As := [.ref (ad 0 0), .int (x1), .int (x2), .ref (o1)]) (rest := []) ⟨hx, hb, hml, hown, hts⟩ M1 (vx_cwSW 4 hts gL_law_L_setBudget rfl rfl rfl (by decide +kernel) ⟨by show fr + 1 ≤ 21; omega, by show 8 + (5 + 11) + lo ≤ 10922; omega⟩) ⟨qLg.blind, qLg.pre hC hW (hD.z hZ0 hS) (hD.up hhz) hzT hzN hat1⟩ rfl rfl hl.1 rfl (lv_room (Nat.le_of_ble_eq_true rfl)) dL_law_693 ⟨by show cells + mc ≤ 603072; omega, by show slots + ms ≤ 7223402; omega⟩) hS hD.a1 hD.a1 (fun H1 locs hP9 hz1 hk1 hS => ?_)
  obtain ⟨ad9, hAE, hW, f3, hat1, hv1⟩ := hP9
  have hrW := hD.w1 hrW hk1
  have hat2 := hD.c1 hat2 hk1
  have hhz := Nat.le_trans hhz hz1
  refine lv_istore (lv' := [(6, .int (nI K)), (0, .ref (b)), (1, .ref (ad 0 0)), (2, .ref (bd 0 0)), (3, .ref (o1)), (4, .ref (o2)), (5, .int (nI (8 * k)))]) hx hb dL_law_696 hl (by decide) rfl (fun ls hl => ?_)
  refine lv_aload_n hx hb dL_law_698 rfl (lv_at hl 3 rfl) ?_
  refine lv_aload_n hx hb dL_law_699 rfl (lv_at hl 1 rfl) ?_
  refine lv_iload hx hb dL_law_700 (lv_at hl 6 rfl) ?_
  refine lv_iconst (v := nI 1) hx hb dL_law_702 (by decide) ?_
  refine lv_iadd hx hb dL_law_703 ?_
  refine q_ti (nI_add (8 * k) 1) ?_
  refine va_sld (i := nI ((8 * k) + 1)) hx hb hX hbl (Nat.not_le.mpr hbl) hS (vp_in_nI (n := 8 * k + 1) (by omega) (by omega)) dL_law_704 ?_
  refine q_ti (y := x1) (by rw [hx1, nI_clamp (by omega)]) ?_
  refine lv_aload_n hx hb dL_law_705 rfl (lv_at hl 1 rfl) ?_
  refine lv_iload hx hb dL_law_706 (lv_at hl 6 rfl) ?_
  refine lv_iconst (v := nI 2) hx hb dL_law_708 (by decide) ?_
  refine lv_iadd hx hb dL_law_709 ?_
  refine q_ti (nI_add (8 * k) 2) ?_
  refine va_sld (i := nI ((8 * k) + 2)) hx hb hX hbl (Nat.not_le.mpr hbl) hS (vp_in_nI (n := 8 * k + 2) (by omega) (by omega)) dL_law_710 ?_
  refine q_ti (y := x2) (by rw [hx2, nI_clamp (by omega)]) ?_
  refine q_wv (va_runV (As := [.int (x1), .int (x2)]) (rest := []) ⟨hx, hb, hml, hown, hts⟩ M2 (cwV 2 hts gL_law_X8_setBudget rfl rfl rfl (by decide +kernel) ⟨by show fr2 + 1 ≤ 21; omega, by show 8 + (3 + 11) + lo2 ≤ 10922; omega⟩) ⟨rR.blind, qrecv hC (hrW.to rLV0) rfl, rR.pre hC hrW⟩ rfl rfl hl.1 rfl (lv_room (Nat.le_of_ble_eq_true rfl)) dL_law_711 ⟨by show cells + mc + 0 ≤ 603072; omega, by show slots + ms + 0 ≤ 7223402; omega⟩) hS hD.b hD.b (fun H2 locs hrW hz2 hk2 hS => ?_)
  have hW := hD.wB hW hk2
  have hat1 := hD.k1 hat1 hk2
  have hat2 := hD.k2 hat2 hk2
  have hhz := Nat.le_trans hhz hz2
  refine lv_istore (lv' := [(7, .int (v)), (6, .int (nI K)), (0, .ref (b)), (1, .ref (ad 0 0)), (2, .ref (bd 0 0)), (3, .ref (o1)), (4, .ref (o2)), (5, .int (nI (8 * k)))]) hx hb dL_law_714 hl (by decide) rfl (fun ls hl => ?_)
  refine lv_aload_n hx hb dL_law_716 rfl (lv_at hl 4 rfl) ?_
  refine q_v (va_runV (As := []) (rest := []) ⟨hx, hb, hml, hown, hts⟩ (m_rthrown l G B R2 bd hw2) (cwV 0 hts gL_law_X8_thrown rfl rfl rfl (by decide +kernel) ⟨Nat.le_of_ble_eq_true rfl, Nat.le_of_ble_eq_true rfl⟩) ⟨rR.blind, qrecv hC (hrW.to rLV0) rfl, rR.pre hC hrW⟩ rfl rfl hl.1 rfl (lv_room (Nat.le_of_ble_eq_true rfl)) dL_law_717 ⟨by show cells + mc + 0 + 0 ≤ 603072; omega, by show slots + ms + 0 + 0 ≤ 7223402; omega⟩) hS (fun _ h => h.elim) (fun locs hS => ?_)
  refine q_ti (y := nI K) (by rw [hK2]) ?_
  refine lv_iload hx hb dL_law_720 (lv_at hl 1 rfl) ?_
  refine q_eq (tgt := 727) hx hb (by omega) (by omega) dL_law_722 (by decide) (fun h5 => ?_) (fun h5 => (by omega))
  refine lv_iload hx hb dL_law_727 (lv_at hl 1 rfl) ?_
  refine q_ne0 (tgt := 744) hx hb (by omega) dL_law_729 (by decide) (fun h6 => ?_) (fun h6 => ?_)
  · skip
    refine lv_goto (tgt := 1997) hx hb dL_law_744 (by decide) ?_
    refine va_forget (fun q hq => hS.2.2 q hq) ?_
    refine W.widen (k := cells + 24) (n := slots + 14000) (by omega) (by omega) ?_
    exact next σ2 R2 ad9 _ ls ⟨hv2, hR2, hw2, hW, hrW, ⟨_, hat1⟩, ⟨_, hat2⟩, hS.forget, hhz⟩ (by rw [hAE 0 0 (by decide) (fun z => absurd z (by decide))]; exact lv_sub hl [2, 3, 4, 5, 6, 7] rfl)
  · skip
    refine lv_aload_n hx hb dL_law_732 rfl (lv_at hl 5 rfl) ?_
    refine lv_iconst (v := nI 0) hx hb dL_law_733 (by decide) ?_
    refine r_lald hx hb hC.1 hat1 2 rfl (i := 0) (by decide) (by decide) (v := (v).toInt64) (hv1 h6) dL_law_734 ?_
    refine lv_iload hx hb dL_law_735 (lv_at hl 0 rfl) ?_
    refine lv_i2l (v := (v).toInt64) hx hb dL_law_737 rfl ?_
    refine W.lcmp hx hb dL_law_738 ?_
    refine q_ti (y := nI 0) (l_cmp _) ?_
    refine q_eq0 (tgt := 744) hx hb (by decide) dL_law_739 (by decide) (fun h9 => ?_) (fun h9 => (by omega))
    refine lv_goto (tgt := 1997) hx hb dL_law_744 (by decide) ?_
    refine va_forget (fun q hq => hS.2.2 q hq) ?_
    refine W.widen (k := cells + 24) (n := slots + 14000) (by omega) (by omega) ?_
    exact next σ2 R2 ad9 _ ls ⟨hv2, hR2, hw2, hW, hrW, ⟨_, hat1⟩, ⟨_, hat2⟩, hS.forget, hhz⟩ (by rw [hAE 0 0 (by decide) (fun z => absurd z (by decide))]; exact lv_sub hl [2, 3, 4, 5, 6, 7] rfl)
set_option maxHeartbeats 4000000 in
set_option maxRecDepth 100000 in
theorem c_kept (cx : lC p l s m meth c b L xs G es o1 o2 hz A B) {k : Nat} (hk : 8 * k + 8 ≤ L) {σ ρ ad : QSt} {H : Heap} {ls : Array Slot} (hI : lS G es A B bd o1 o2 hz s σ ρ ad H) (hl : lv_has ls 9 [(0, .ref b), (1, .ref (ad 0 0)), (2, .ref (bd 0 0)), (3, .ref o1), (4, .ref o2), (5, .int (nI (8 * k)))]) {cells slots : Nat} {Q : State → Prop} (hroom : cells + 24 ≤ 603072 ∧ slots + 14000 ≤ 7223402)
    (next : ∀ (σ ρ ad : QSt) (H : Heap) (ls : Array Slot), lS G es A B bd o1 o2 hz s σ ρ ad H → lv_has ls 9 [(0, .ref b), (1, .ref (ad 0 0)), (2, .ref (bd 0 0)), (3, .ref o1), (4, .ref o2), (5, .int (nI (8 * k)))] → W p l e room_1 s m #[Value.ref b] below meth c H [] (cells + 24) (slots + 14000) Q (F0 m 1997 ls [])) : W p l e room_1 s m #[Value.ref b] below meth c H [] cells slots Q (F0 m 747 ls []) := by
  obtain ⟨hx, hb, hml, hown, hts, hlocks, hst, hX, hbl, hC, hZ0, hzT, hzN, hL, hD⟩ := cx
  obtain ⟨hv, hR, hw, hW, hrW, ⟨f1, hat1⟩, ⟨f2, hat2⟩, hS, hhz⟩ := hI
  have hF := hv.1.wf
  have hB := hF.1
  have hn := hF.n
  obtain ⟨x1, hx1⟩ : ∃ x, x = xs (8 * k + 1) := ⟨_, rfl⟩
  obtain ⟨K, mc, ms, fr, lo, fr2, lo2, σ2, R2, v, hK, hmc, hms, ⟨hr1, hr2, hr3, hr4⟩, hv2, hR2, hw2, hK2, hPv, M1, M2⟩ := lk_kept (l := l) (G := G) (es := es) (A := A) (B := B) (σ := σ) (ρ := ρ) (ad := ad) (bd := bd) (o1 := o1) (f1 := f1) hst hv hR hw hD.n1 x1
  refine lv_aload_n hx hb dL_law_747 rfl (lv_at hl 1 rfl) ?_
  refine lv_aload_n hx hb dL_law_748 rfl (lv_at hl 0 rfl) ?_
  refine lv_iload hx hb dL_law_749 (lv_at hl 5 rfl) ?_
  refine lv_iconst (v := nI 1) hx hb dL_law_751 (by decide) ?_
  refine lv_iadd hx hb dL_law_752 ?_
  refine q_ti (nI_add (8 * k) 1) ?_
  refine va_sld (i := nI ((8 * k) + 1)) hx hb hX hbl (Nat.not_le.mpr hbl) hS (vp_in_nI (n := 8 * k + 1) (by omega) (by omega)) dL_law_753 ?_
  refine q_ti (y := x1) (by rw [hx1, nI_clamp (by omega)]) ?_
  refine lv_aload_n hx hb dL_law_754 rfl (lv_at hl 3 rfl) ?_
  refine q_wv (vx_runSW (As := [.ref (ad 0 0), .int (x1), .ref (o1)]) (rest := []) ⟨hx, hb, hml, hown, hts⟩ M1 (vx_cwSW 3 hts gL_law_L_kept rfl rfl rfl (by decide +kernel) ⟨by show fr + 1 ≤ 21; omega, by show 8 + (4 + 11) + lo ≤ 10922; omega⟩) ⟨qLg.blind, qLg.pre hC hW (hD.z hZ0 hS) (hD.up hhz) hzT hzN hat1⟩ rfl rfl hl.1 rfl (lv_room (Nat.le_of_ble_eq_true rfl)) dL_law_755 ⟨by show cells + mc ≤ 603072; omega, by show slots + ms ≤ 7223402; omega⟩) hS hD.a1 hD.a1 (fun H1 locs hP9 hz1 hk1 hS => ?_)
  obtain ⟨ad9, hAE, hW, f3, hat1, hv1⟩ := hP9
  have hrW := hD.w1 hrW hk1
  have hat2 := hD.c1 hat2 hk1
  have hhz := Nat.le_trans hhz hz1
  refine lv_istore (lv' := [(6, .int (nI K)), (0, .ref (b)), (1, .ref (ad 0 0)), (2, .ref (bd 0 0)), (3, .ref (o1)), (4, .ref (o2)), (5, .int (nI (8 * k)))]) hx hb dL_law_758 hl (by decide) rfl (fun ls hl => ?_)
  refine lv_aload_n hx hb dL_law_760 rfl (lv_at hl 3 rfl) ?_
  refine lv_aload_n hx hb dL_law_761 rfl (lv_at hl 1 rfl) ?_
  refine lv_iload hx hb dL_law_762 (lv_at hl 6 rfl) ?_
  refine lv_iconst (v := nI 1) hx hb dL_law_764 (by decide) ?_
  refine lv_iadd hx hb dL_law_765 ?_
  refine q_ti (nI_add (8 * k) 1) ?_
  refine va_sld (i := nI ((8 * k) + 1)) hx hb hX hbl (Nat.not_le.mpr hbl) hS (vp_in_nI (n := 8 * k + 1) (by omega) (by omega)) dL_law_766 ?_
  refine q_ti (y := x1) (by rw [hx1, nI_clamp (by omega)]) ?_
  refine q_wv (va_runV (As := [.int (x1)]) (rest := []) ⟨hx, hb, hml, hown, hts⟩ M2 (cwV 1 hts gL_law_X8_kept rfl rfl rfl (by decide +kernel) ⟨by show fr2 + 1 ≤ 21; omega, by show 8 + (2 + 11) + lo2 ≤ 10922; omega⟩) ⟨rR.blind, qrecv hC (hrW.to rLV0) rfl, rR.pre hC hrW⟩ rfl rfl hl.1 rfl (lv_room (Nat.le_of_ble_eq_true rfl)) dL_law_767 ⟨by show cells + mc + 0 ≤ 603072; omega, by show slots + ms + 0 ≤ 7223402; omega⟩) hS hD.b hD.b (fun H2 locs hrW hz2 hk2 hS => ?_)
  have hW := hD.wB hW hk2
  have hat1 := hD.k1 hat1 hk2
  have hat2 := hD.k2 hat2 hk2
  have hhz := Nat.le_trans hhz hz2
  refine lv_istore (lv' := [(7, .int (v)), (6, .int (nI K)), (0, .ref (b)), (1, .ref (ad 0 0)), (2, .ref (bd 0 0)), (3, .ref (o1)), (4, .ref (o2)), (5, .int (nI (8 * k)))]) hx hb dL_law_770 hl (by decide) rfl (fun ls hl => ?_)
  refine lv_aload_n hx hb dL_law_772 rfl (lv_at hl 4 rfl) ?_
  refine q_v (va_runV (As := []) (rest := []) ⟨hx, hb, hml, hown, hts⟩ (m_rthrown l G B R2 bd hw2) (cwV 0 hts gL_law_X8_thrown rfl rfl rfl (by decide +kernel) ⟨Nat.le_of_ble_eq_true rfl, Nat.le_of_ble_eq_true rfl⟩) ⟨rR.blind, qrecv hC (hrW.to rLV0) rfl, rR.pre hC hrW⟩ rfl rfl hl.1 rfl (lv_room (Nat.le_of_ble_eq_true rfl)) dL_law_773 ⟨by show cells + mc + 0 + 0 ≤ 603072; omega, by show slots + ms + 0 + 0 ≤ 7223402; omega⟩) hS (fun _ h => h.elim) (fun locs hS => ?_)
  refine q_ti (y := nI K) (by rw [hK2]) ?_
  refine lv_iload hx hb dL_law_776 (lv_at hl 1 rfl) ?_
  refine q_eq (tgt := 783) hx hb (by omega) (by omega) dL_law_778 (by decide) (fun h5 => ?_) (fun h5 => (by omega))
  refine lv_iload hx hb dL_law_783 (lv_at hl 1 rfl) ?_
  refine q_ne0 (tgt := 800) hx hb (by omega) dL_law_785 (by decide) (fun h6 => ?_) (fun h6 => ?_)
  · skip
    refine lv_goto (tgt := 1997) hx hb dL_law_800 (by decide) ?_
    refine va_forget (fun q hq => hS.2.2 q hq) ?_
    refine W.widen (k := cells + 24) (n := slots + 14000) (by omega) (by omega) ?_
    exact next σ2 R2 ad9 _ ls ⟨hv2, hR2, hw2, hW, hrW, ⟨_, hat1⟩, ⟨_, hat2⟩, hS.forget, hhz⟩ (by rw [hAE 0 0 (by decide) (fun z => absurd z (by decide))]; exact lv_sub hl [2, 3, 4, 5, 6, 7] rfl)
  · skip
    refine lv_aload_n hx hb dL_law_788 rfl (lv_at hl 5 rfl) ?_
    refine lv_iconst (v := nI 0) hx hb dL_law_789 (by decide) ?_
    refine r_lald hx hb hC.1 hat1 2 rfl (i := 0) (by decide) (by decide) (v := (v).toInt64) (hv1 h6) dL_law_790 ?_
    refine lv_iload hx hb dL_law_791 (lv_at hl 0 rfl) ?_
    refine lv_i2l (v := (v).toInt64) hx hb dL_law_793 rfl ?_
    refine W.lcmp hx hb dL_law_794 ?_
    refine q_ti (y := nI 0) (l_cmp _) ?_
    refine q_eq0 (tgt := 800) hx hb (by decide) dL_law_795 (by decide) (fun h9 => ?_) (fun h9 => (by omega))
    refine lv_goto (tgt := 1997) hx hb dL_law_800 (by decide) ?_
    refine va_forget (fun q hq => hS.2.2 q hq) ?_
    refine W.widen (k := cells + 24) (n := slots + 14000) (by omega) (by omega) ?_
    exact next σ2 R2 ad9 _ ls ⟨hv2, hR2, hw2, hW, hrW, ⟨_, hat1⟩, ⟨_, hat2⟩, hS.forget, hhz⟩ (by rw [hAE 0 0 (by decide) (fun z => absurd z (by decide))]; exact lv_sub hl [2, 3, 4, 5, 6, 7] rfl)
set_option maxHeartbeats 4000000 in
set_option maxRecDepth 100000 in
theorem c_dropped (cx : lC p l s m meth c b L xs G es o1 o2 hz A B) {k : Nat} (hk : 8 * k + 8 ≤ L) {σ ρ ad : QSt} {H : Heap} {ls : Array Slot} (hI : lS G es A B bd o1 o2 hz s σ ρ ad H) (hl : lv_has ls 9 [(0, .ref b), (1, .ref (ad 0 0)), (2, .ref (bd 0 0)), (3, .ref o1), (4, .ref o2), (5, .int (nI (8 * k)))]) {cells slots : Nat} {Q : State → Prop} (hroom : cells + 24 ≤ 603072 ∧ slots + 14000 ≤ 7223402)
    (next : ∀ (σ ρ ad : QSt) (H : Heap) (ls : Array Slot), lS G es A B bd o1 o2 hz s σ ρ ad H → lv_has ls 9 [(0, .ref b), (1, .ref (ad 0 0)), (2, .ref (bd 0 0)), (3, .ref o1), (4, .ref o2), (5, .int (nI (8 * k)))] → W p l e room_1 s m #[Value.ref b] below meth c H [] (cells + 24) (slots + 14000) Q (F0 m 1997 ls [])) : W p l e room_1 s m #[Value.ref b] below meth c H [] cells slots Q (F0 m 803 ls []) := by
  obtain ⟨hx, hb, hml, hown, hts, hlocks, hst, hX, hbl, hC, hZ0, hzT, hzN, hL, hD⟩ := cx
  obtain ⟨hv, hR, hw, hW, hrW, ⟨f1, hat1⟩, ⟨f2, hat2⟩, hS, hhz⟩ := hI
  have hF := hv.1.wf
  have hB := hF.1
  have hn := hF.n
  obtain ⟨x1, hx1⟩ : ∃ x, x = xs (8 * k + 1) := ⟨_, rfl⟩
  obtain ⟨K, mc, ms, fr, lo, fr2, lo2, σ2, R2, v, hK, hmc, hms, ⟨hr1, hr2, hr3, hr4⟩, hv2, hR2, hw2, hK2, hPv, M1, M2⟩ := lk_dropped (l := l) (G := G) (es := es) (A := A) (B := B) (σ := σ) (ρ := ρ) (ad := ad) (bd := bd) (o1 := o1) (f1 := f1) hst hv hR hw hD.n1 x1
  refine lv_aload_n hx hb dL_law_803 rfl (lv_at hl 1 rfl) ?_
  refine lv_aload_n hx hb dL_law_804 rfl (lv_at hl 0 rfl) ?_
  refine lv_iload hx hb dL_law_805 (lv_at hl 5 rfl) ?_
  refine lv_iconst (v := nI 1) hx hb dL_law_807 (by decide) ?_
  refine lv_iadd hx hb dL_law_808 ?_
  refine q_ti (nI_add (8 * k) 1) ?_
  refine va_sld (i := nI ((8 * k) + 1)) hx hb hX hbl (Nat.not_le.mpr hbl) hS (vp_in_nI (n := 8 * k + 1) (by omega) (by omega)) dL_law_809 ?_
  refine q_ti (y := x1) (by rw [hx1, nI_clamp (by omega)]) ?_
  refine lv_aload_n hx hb dL_law_810 rfl (lv_at hl 3 rfl) ?_
  refine q_wv (vx_runSW (As := [.ref (ad 0 0), .int (x1), .ref (o1)]) (rest := []) ⟨hx, hb, hml, hown, hts⟩ M1 (vx_cwSW 3 hts gL_law_L_dropped rfl rfl rfl (by decide +kernel) ⟨by show fr + 1 ≤ 21; omega, by show 8 + (4 + 11) + lo ≤ 10922; omega⟩) ⟨qLg.blind, qLg.pre hC hW (hD.z hZ0 hS) (hD.up hhz) hzT hzN hat1⟩ rfl rfl hl.1 rfl (lv_room (Nat.le_of_ble_eq_true rfl)) dL_law_811 ⟨by show cells + mc ≤ 603072; omega, by show slots + ms ≤ 7223402; omega⟩) hS hD.a1 hD.a1 (fun H1 locs hP9 hz1 hk1 hS => ?_)
  obtain ⟨ad9, hAE, hW, f3, hat1, hv1⟩ := hP9
  have hrW := hD.w1 hrW hk1
  have hat2 := hD.c1 hat2 hk1
  have hhz := Nat.le_trans hhz hz1
  refine lv_istore (lv' := [(6, .int (nI K)), (0, .ref (b)), (1, .ref (ad 0 0)), (2, .ref (bd 0 0)), (3, .ref (o1)), (4, .ref (o2)), (5, .int (nI (8 * k)))]) hx hb dL_law_814 hl (by decide) rfl (fun ls hl => ?_)
  refine lv_aload_n hx hb dL_law_816 rfl (lv_at hl 3 rfl) ?_
  refine lv_aload_n hx hb dL_law_817 rfl (lv_at hl 1 rfl) ?_
  refine lv_iload hx hb dL_law_818 (lv_at hl 6 rfl) ?_
  refine lv_iconst (v := nI 1) hx hb dL_law_820 (by decide) ?_
  refine lv_iadd hx hb dL_law_821 ?_
  refine q_ti (nI_add (8 * k) 1) ?_
  refine va_sld (i := nI ((8 * k) + 1)) hx hb hX hbl (Nat.not_le.mpr hbl) hS (vp_in_nI (n := 8 * k + 1) (by omega) (by omega)) dL_law_822 ?_
  refine q_ti (y := x1) (by rw [hx1, nI_clamp (by omega)]) ?_
  refine q_wv (va_runV (As := [.int (x1)]) (rest := []) ⟨hx, hb, hml, hown, hts⟩ M2 (cwV 1 hts gL_law_X8_dropped rfl rfl rfl (by decide +kernel) ⟨by show fr2 + 1 ≤ 21; omega, by show 8 + (2 + 11) + lo2 ≤ 10922; omega⟩) ⟨rR.blind, qrecv hC (hrW.to rLV0) rfl, rR.pre hC hrW⟩ rfl rfl hl.1 rfl (lv_room (Nat.le_of_ble_eq_true rfl)) dL_law_823 ⟨by show cells + mc + 0 ≤ 603072; omega, by show slots + ms + 0 ≤ 7223402; omega⟩) hS hD.b hD.b (fun H2 locs hrW hz2 hk2 hS => ?_)
  have hW := hD.wB hW hk2
  have hat1 := hD.k1 hat1 hk2
  have hat2 := hD.k2 hat2 hk2
  have hhz := Nat.le_trans hhz hz2
  refine lv_istore (lv' := [(7, .int (v)), (6, .int (nI K)), (0, .ref (b)), (1, .ref (ad 0 0)), (2, .ref (bd 0 0)), (3, .ref (o1)), (4, .ref (o2)), (5, .int (nI (8 * k)))]) hx hb dL_law_826 hl (by decide) rfl (fun ls hl => ?_)
  refine lv_aload_n hx hb dL_law_828 rfl (lv_at hl 4 rfl) ?_
  refine q_v (va_runV (As := []) (rest := []) ⟨hx, hb, hml, hown, hts⟩ (m_rthrown l G B R2 bd hw2) (cwV 0 hts gL_law_X8_thrown rfl rfl rfl (by decide +kernel) ⟨Nat.le_of_ble_eq_true rfl, Nat.le_of_ble_eq_true rfl⟩) ⟨rR.blind, qrecv hC (hrW.to rLV0) rfl, rR.pre hC hrW⟩ rfl rfl hl.1 rfl (lv_room (Nat.le_of_ble_eq_true rfl)) dL_law_829 ⟨by show cells + mc + 0 + 0 ≤ 603072; omega, by show slots + ms + 0 + 0 ≤ 7223402; omega⟩) hS (fun _ h => h.elim) (fun locs hS => ?_)
  refine q_ti (y := nI K) (by rw [hK2]) ?_
  refine lv_iload hx hb dL_law_832 (lv_at hl 1 rfl) ?_
  refine q_eq (tgt := 839) hx hb (by omega) (by omega) dL_law_834 (by decide) (fun h5 => ?_) (fun h5 => (by omega))
  refine lv_iload hx hb dL_law_839 (lv_at hl 1 rfl) ?_
  refine q_ne0 (tgt := 856) hx hb (by omega) dL_law_841 (by decide) (fun h6 => ?_) (fun h6 => ?_)
  · skip
    refine lv_goto (tgt := 1997) hx hb dL_law_856 (by decide) ?_
    refine va_forget (fun q hq => hS.2.2 q hq) ?_
    refine W.widen (k := cells + 24) (n := slots + 14000) (by omega) (by omega) ?_
    exact next σ2 R2 ad9 _ ls ⟨hv2, hR2, hw2, hW, hrW, ⟨_, hat1⟩, ⟨_, hat2⟩, hS.forget, hhz⟩ (by rw [hAE 0 0 (by decide) (fun z => absurd z (by decide))]; exact lv_sub hl [2, 3, 4, 5, 6, 7] rfl)
  · skip
    refine lv_aload_n hx hb dL_law_844 rfl (lv_at hl 5 rfl) ?_
    refine lv_iconst (v := nI 0) hx hb dL_law_845 (by decide) ?_
    refine r_lald hx hb hC.1 hat1 2 rfl (i := 0) (by decide) (by decide) (v := (v).toInt64) (hv1 h6) dL_law_846 ?_
    refine lv_iload hx hb dL_law_847 (lv_at hl 0 rfl) ?_
    refine lv_i2l (v := (v).toInt64) hx hb dL_law_849 rfl ?_
    refine W.lcmp hx hb dL_law_850 ?_
    refine q_ti (y := nI 0) (l_cmp _) ?_
    refine q_eq0 (tgt := 856) hx hb (by decide) dL_law_851 (by decide) (fun h9 => ?_) (fun h9 => (by omega))
    refine lv_goto (tgt := 1997) hx hb dL_law_856 (by decide) ?_
    refine va_forget (fun q hq => hS.2.2 q hq) ?_
    refine W.widen (k := cells + 24) (n := slots + 14000) (by omega) (by omega) ?_
    exact next σ2 R2 ad9 _ ls ⟨hv2, hR2, hw2, hW, hrW, ⟨_, hat1⟩, ⟨_, hat2⟩, hS.forget, hhz⟩ (by rw [hAE 0 0 (by decide) (fun z => absurd z (by decide))]; exact lv_sub hl [2, 3, 4, 5, 6, 7] rfl)
set_option maxHeartbeats 4000000 in
set_option maxRecDepth 100000 in
theorem c_archive (cx : lC p l s m meth c b L xs G es o1 o2 hz A B) {k : Nat} (hk : 8 * k + 8 ≤ L) {σ ρ ad : QSt} {H : Heap} {ls : Array Slot} (hI : lS G es A B bd o1 o2 hz s σ ρ ad H) (hl : lv_has ls 9 [(0, .ref b), (1, .ref (ad 0 0)), (2, .ref (bd 0 0)), (3, .ref o1), (4, .ref o2), (5, .int (nI (8 * k)))]) {cells slots : Nat} {Q : State → Prop} (hroom : cells + 24 ≤ 603072 ∧ slots + 14000 ≤ 7223402)
    (next : ∀ (σ ρ ad : QSt) (H : Heap) (ls : Array Slot), lS G es A B bd o1 o2 hz s σ ρ ad H → lv_has ls 9 [(0, .ref b), (1, .ref (ad 0 0)), (2, .ref (bd 0 0)), (3, .ref o1), (4, .ref o2), (5, .int (nI (8 * k)))] → W p l e room_1 s m #[Value.ref b] below meth c H [] (cells + 24) (slots + 14000) Q (F0 m 1997 ls [])) : W p l e room_1 s m #[Value.ref b] below meth c H [] cells slots Q (F0 m 859 ls []) := by
  obtain ⟨hx, hb, hml, hown, hts, hlocks, hst, hX, hbl, hC, hZ0, hzT, hzN, hL, hD⟩ := cx
  obtain ⟨hv, hR, hw, hW, hrW, ⟨f1, hat1⟩, ⟨f2, hat2⟩, hS, hhz⟩ := hI
  have hF := hv.1.wf
  have hB := hF.1
  have hn := hF.n
  obtain ⟨x1, hx1⟩ : ∃ x, x = xs (8 * k + 1) := ⟨_, rfl⟩
  obtain ⟨K, mc, ms, fr, lo, fr2, lo2, σ2, R2, v, hK, hmc, hms, ⟨hr1, hr2, hr3, hr4⟩, hv2, hR2, hw2, hK2, hPv, M1, M2⟩ := lk_archive (l := l) (G := G) (es := es) (A := A) (B := B) (σ := σ) (ρ := ρ) (ad := ad) (bd := bd) (o1 := o1) (f1 := f1) hst hv hR hw hD.n1 x1
  refine lv_aload_n hx hb dL_law_859 rfl (lv_at hl 1 rfl) ?_
  refine lv_aload_n hx hb dL_law_860 rfl (lv_at hl 0 rfl) ?_
  refine lv_iload hx hb dL_law_861 (lv_at hl 5 rfl) ?_
  refine lv_iconst (v := nI 1) hx hb dL_law_863 (by decide) ?_
  refine lv_iadd hx hb dL_law_864 ?_
  refine q_ti (nI_add (8 * k) 1) ?_
  refine va_sld (i := nI ((8 * k) + 1)) hx hb hX hbl (Nat.not_le.mpr hbl) hS (vp_in_nI (n := 8 * k + 1) (by omega) (by omega)) dL_law_865 ?_
  refine q_ti (y := x1) (by rw [hx1, nI_clamp (by omega)]) ?_
  refine lv_aload_n hx hb dL_law_866 rfl (lv_at hl 3 rfl) ?_
  refine q_wv (vx_runSW (As := [.ref (ad 0 0), .int (x1), .ref (o1)]) (rest := []) ⟨hx, hb, hml, hown, hts⟩ M1 (vx_cwSW 3 hts gL_law_L_archive rfl rfl rfl (by decide +kernel) ⟨by show fr + 1 ≤ 21; omega, by show 8 + (4 + 11) + lo ≤ 10922; omega⟩) ⟨qLg.blind, qLg.pre hC hW (hD.z hZ0 hS) (hD.up hhz) hzT hzN hat1⟩ rfl rfl hl.1 rfl (lv_room (Nat.le_of_ble_eq_true rfl)) dL_law_867 ⟨by show cells + mc ≤ 603072; omega, by show slots + ms ≤ 7223402; omega⟩) hS hD.a1 hD.a1 (fun H1 locs hP9 hz1 hk1 hS => ?_)
  obtain ⟨ad9, hAE, hW, f3, hat1, hv1⟩ := hP9
  have hrW := hD.w1 hrW hk1
  have hat2 := hD.c1 hat2 hk1
  have hhz := Nat.le_trans hhz hz1
  refine lv_istore (lv' := [(6, .int (nI K)), (0, .ref (b)), (1, .ref (ad 0 0)), (2, .ref (bd 0 0)), (3, .ref (o1)), (4, .ref (o2)), (5, .int (nI (8 * k)))]) hx hb dL_law_870 hl (by decide) rfl (fun ls hl => ?_)
  refine lv_aload_n hx hb dL_law_872 rfl (lv_at hl 3 rfl) ?_
  refine lv_aload_n hx hb dL_law_873 rfl (lv_at hl 1 rfl) ?_
  refine lv_iload hx hb dL_law_874 (lv_at hl 6 rfl) ?_
  refine lv_iconst (v := nI 1) hx hb dL_law_876 (by decide) ?_
  refine lv_iadd hx hb dL_law_877 ?_
  refine q_ti (nI_add (8 * k) 1) ?_
  refine va_sld (i := nI ((8 * k) + 1)) hx hb hX hbl (Nat.not_le.mpr hbl) hS (vp_in_nI (n := 8 * k + 1) (by omega) (by omega)) dL_law_878 ?_
  refine q_ti (y := x1) (by rw [hx1, nI_clamp (by omega)]) ?_
  refine q_wv (va_runV (As := [.int (x1)]) (rest := []) ⟨hx, hb, hml, hown, hts⟩ M2 (cwV 1 hts gL_law_X8_archive rfl rfl rfl (by decide +kernel) ⟨by show fr2 + 1 ≤ 21; omega, by show 8 + (2 + 11) + lo2 ≤ 10922; omega⟩) ⟨rR.blind, qrecv hC (hrW.to rLV0) rfl, rR.pre hC hrW⟩ rfl rfl hl.1 rfl (lv_room (Nat.le_of_ble_eq_true rfl)) dL_law_879 ⟨by show cells + mc + 0 ≤ 603072; omega, by show slots + ms + 0 ≤ 7223402; omega⟩) hS hD.b hD.b (fun H2 locs hrW hz2 hk2 hS => ?_)
  have hW := hD.wB hW hk2
  have hat1 := hD.k1 hat1 hk2
  have hat2 := hD.k2 hat2 hk2
  have hhz := Nat.le_trans hhz hz2
  refine lv_istore (lv' := [(7, .int (v)), (6, .int (nI K)), (0, .ref (b)), (1, .ref (ad 0 0)), (2, .ref (bd 0 0)), (3, .ref (o1)), (4, .ref (o2)), (5, .int (nI (8 * k)))]) hx hb dL_law_882 hl (by decide) rfl (fun ls hl => ?_)
  refine lv_aload_n hx hb dL_law_884 rfl (lv_at hl 4 rfl) ?_
  refine q_v (va_runV (As := []) (rest := []) ⟨hx, hb, hml, hown, hts⟩ (m_rthrown l G B R2 bd hw2) (cwV 0 hts gL_law_X8_thrown rfl rfl rfl (by decide +kernel) ⟨Nat.le_of_ble_eq_true rfl, Nat.le_of_ble_eq_true rfl⟩) ⟨rR.blind, qrecv hC (hrW.to rLV0) rfl, rR.pre hC hrW⟩ rfl rfl hl.1 rfl (lv_room (Nat.le_of_ble_eq_true rfl)) dL_law_885 ⟨by show cells + mc + 0 + 0 ≤ 603072; omega, by show slots + ms + 0 + 0 ≤ 7223402; omega⟩) hS (fun _ h => h.elim) (fun locs hS => ?_)
  refine q_ti (y := nI K) (by rw [hK2]) ?_
  refine lv_iload hx hb dL_law_888 (lv_at hl 1 rfl) ?_
  refine q_eq (tgt := 895) hx hb (by omega) (by omega) dL_law_890 (by decide) (fun h5 => ?_) (fun h5 => (by omega))
  refine lv_iload hx hb dL_law_895 (lv_at hl 1 rfl) ?_
  refine q_ne0 (tgt := 912) hx hb (by omega) dL_law_897 (by decide) (fun h6 => ?_) (fun h6 => ?_)
  · skip
    refine lv_goto (tgt := 1997) hx hb dL_law_912 (by decide) ?_
    refine va_forget (fun q hq => hS.2.2 q hq) ?_
    refine W.widen (k := cells + 24) (n := slots + 14000) (by omega) (by omega) ?_
    exact next σ2 R2 ad9 _ ls ⟨hv2, hR2, hw2, hW, hrW, ⟨_, hat1⟩, ⟨_, hat2⟩, hS.forget, hhz⟩ (by rw [hAE 0 0 (by decide) (fun z => absurd z (by decide))]; exact lv_sub hl [2, 3, 4, 5, 6, 7] rfl)
  · skip
    refine lv_aload_n hx hb dL_law_900 rfl (lv_at hl 5 rfl) ?_
    refine lv_iconst (v := nI 0) hx hb dL_law_901 (by decide) ?_
    refine r_lald hx hb hC.1 hat1 2 rfl (i := 0) (by decide) (by decide) (v := (v).toInt64) (hv1 h6) dL_law_902 ?_
    refine lv_iload hx hb dL_law_903 (lv_at hl 0 rfl) ?_
    refine lv_i2l (v := (v).toInt64) hx hb dL_law_905 rfl ?_
    refine W.lcmp hx hb dL_law_906 ?_
    refine q_ti (y := nI 0) (l_cmp _) ?_
    refine q_eq0 (tgt := 912) hx hb (by decide) dL_law_907 (by decide) (fun h9 => ?_) (fun h9 => (by omega))
    refine lv_goto (tgt := 1997) hx hb dL_law_912 (by decide) ?_
    refine va_forget (fun q hq => hS.2.2 q hq) ?_
    refine W.widen (k := cells + 24) (n := slots + 14000) (by omega) (by omega) ?_
    exact next σ2 R2 ad9 _ ls ⟨hv2, hR2, hw2, hW, hrW, ⟨_, hat1⟩, ⟨_, hat2⟩, hS.forget, hhz⟩ (by rw [hAE 0 0 (by decide) (fun z => absurd z (by decide))]; exact lv_sub hl [2, 3, 4, 5, 6, 7] rfl)
set_option maxHeartbeats 4000000 in
set_option maxRecDepth 100000 in
theorem c_request (cx : lC p l s m meth c b L xs G es o1 o2 hz A B) {k : Nat} (hk : 8 * k + 8 ≤ L) {σ ρ ad : QSt} {H : Heap} {ls : Array Slot} (hI : lS G es A B bd o1 o2 hz s σ ρ ad H) (hl : lv_has ls 9 [(0, .ref b), (1, .ref (ad 0 0)), (2, .ref (bd 0 0)), (3, .ref o1), (4, .ref o2), (5, .int (nI (8 * k)))]) {cells slots : Nat} {Q : State → Prop} (hroom : cells + 24 ≤ 603072 ∧ slots + 14000 ≤ 7223402)
    (next : ∀ (σ ρ ad : QSt) (H : Heap) (ls : Array Slot), lS G es A B bd o1 o2 hz s σ ρ ad H → lv_has ls 9 [(0, .ref b), (1, .ref (ad 0 0)), (2, .ref (bd 0 0)), (3, .ref o1), (4, .ref o2), (5, .int (nI (8 * k)))] → W p l e room_1 s m #[Value.ref b] below meth c H [] (cells + 24) (slots + 14000) Q (F0 m 1997 ls [])) : W p l e room_1 s m #[Value.ref b] below meth c H [] cells slots Q (F0 m 915 ls []) := by
  obtain ⟨hx, hb, hml, hown, hts, hlocks, hst, hX, hbl, hC, hZ0, hzT, hzN, hL, hD⟩ := cx
  obtain ⟨hv, hR, hw, hW, hrW, ⟨f1, hat1⟩, ⟨f2, hat2⟩, hS, hhz⟩ := hI
  have hF := hv.1.wf
  have hB := hF.1
  have hn := hF.n
  obtain ⟨x1, hx1⟩ : ∃ x, x = xs (8 * k + 1) := ⟨_, rfl⟩
  obtain ⟨x2, hx2⟩ : ∃ x, x = xs (8 * k + 2) := ⟨_, rfl⟩
  obtain ⟨K, mc, ms, fr, lo, fr2, lo2, σ2, R2, v, hK, hmc, hms, ⟨hr1, hr2, hr3, hr4⟩, hv2, hR2, hw2, hK2, hPv, M1, M2⟩ := lk_request (l := l) (G := G) (es := es) (A := A) (B := B) (σ := σ) (ρ := ρ) (ad := ad) (bd := bd) (o1 := o1) (f1 := f1) hst hv hR hw hD.n1 x1 x2
  refine lv_aload_n hx hb dL_law_915 rfl (lv_at hl 1 rfl) ?_
  refine lv_aload_n hx hb dL_law_916 rfl (lv_at hl 0 rfl) ?_
  refine lv_iload hx hb dL_law_917 (lv_at hl 5 rfl) ?_
  refine lv_iconst (v := nI 1) hx hb dL_law_919 (by decide) ?_
  refine lv_iadd hx hb dL_law_920 ?_
  refine q_ti (nI_add (8 * k) 1) ?_
  refine va_sld (i := nI ((8 * k) + 1)) hx hb hX hbl (Nat.not_le.mpr hbl) hS (vp_in_nI (n := 8 * k + 1) (by omega) (by omega)) dL_law_921 ?_
  refine q_ti (y := x1) (by rw [hx1, nI_clamp (by omega)]) ?_
  refine lv_aload_n hx hb dL_law_922 rfl (lv_at hl 0 rfl) ?_
  refine lv_iload hx hb dL_law_923 (lv_at hl 5 rfl) ?_
  refine lv_iconst (v := nI 2) hx hb dL_law_925 (by decide) ?_
  refine lv_iadd hx hb dL_law_926 ?_
  refine q_ti (nI_add (8 * k) 2) ?_
  refine va_sld (i := nI ((8 * k) + 2)) hx hb hX hbl (Nat.not_le.mpr hbl) hS (vp_in_nI (n := 8 * k + 2) (by omega) (by omega)) dL_law_927 ?_
  refine q_ti (y := x2) (by rw [hx2, nI_clamp (by omega)]) ?_
  refine lv_aload_n hx hb dL_law_928 rfl (lv_at hl 3 rfl) ?_
  refine q_wv (vx_runSW (As := [.ref (ad 0 0), .int (x1), .int (x2), .ref (o1)]) (rest := []) ⟨hx, hb, hml, hown, hts⟩ M1 (vx_cwSW 4 hts gL_law_L_request rfl rfl rfl (by decide +kernel) ⟨by show fr + 1 ≤ 21; omega, by show 8 + (5 + 11) + lo ≤ 10922; omega⟩) ⟨qLg.blind, qLg.pre hC hW (hD.z hZ0 hS) (hD.up hhz) hzT hzN hat1⟩ rfl rfl hl.1 rfl (lv_room (Nat.le_of_ble_eq_true rfl)) dL_law_929 ⟨by show cells + mc ≤ 603072; omega, by show slots + ms ≤ 7223402; omega⟩) hS hD.a1 hD.a1 (fun H1 locs hP9 hz1 hk1 hS => ?_)
  obtain ⟨ad9, hAE, hW, f3, hat1, hv1⟩ := hP9
  have hrW := hD.w1 hrW hk1
  have hat2 := hD.c1 hat2 hk1
  have hhz := Nat.le_trans hhz hz1
  refine lv_istore (lv' := [(6, .int (nI K)), (0, .ref (b)), (1, .ref (ad 0 0)), (2, .ref (bd 0 0)), (3, .ref (o1)), (4, .ref (o2)), (5, .int (nI (8 * k)))]) hx hb dL_law_932 hl (by decide) rfl (fun ls hl => ?_)
  refine lv_aload_n hx hb dL_law_934 rfl (lv_at hl 3 rfl) ?_
  refine lv_aload_n hx hb dL_law_935 rfl (lv_at hl 1 rfl) ?_
  refine lv_iload hx hb dL_law_936 (lv_at hl 6 rfl) ?_
  refine lv_iconst (v := nI 1) hx hb dL_law_938 (by decide) ?_
  refine lv_iadd hx hb dL_law_939 ?_
  refine q_ti (nI_add (8 * k) 1) ?_
  refine va_sld (i := nI ((8 * k) + 1)) hx hb hX hbl (Nat.not_le.mpr hbl) hS (vp_in_nI (n := 8 * k + 1) (by omega) (by omega)) dL_law_940 ?_
  refine q_ti (y := x1) (by rw [hx1, nI_clamp (by omega)]) ?_
  refine lv_aload_n hx hb dL_law_941 rfl (lv_at hl 1 rfl) ?_
  refine lv_iload hx hb dL_law_942 (lv_at hl 6 rfl) ?_
  refine lv_iconst (v := nI 2) hx hb dL_law_944 (by decide) ?_
  refine lv_iadd hx hb dL_law_945 ?_
  refine q_ti (nI_add (8 * k) 2) ?_
  refine va_sld (i := nI ((8 * k) + 2)) hx hb hX hbl (Nat.not_le.mpr hbl) hS (vp_in_nI (n := 8 * k + 2) (by omega) (by omega)) dL_law_946 ?_
  refine q_ti (y := x2) (by rw [hx2, nI_clamp (by omega)]) ?_
  refine q_wv (va_runV (As := [.int (x1), .int (x2)]) (rest := []) ⟨hx, hb, hml, hown, hts⟩ M2 (cwV 2 hts gL_law_X8_request rfl rfl rfl (by decide +kernel) ⟨by show fr2 + 1 ≤ 21; omega, by show 8 + (3 + 11) + lo2 ≤ 10922; omega⟩) ⟨rR.blind, qrecv hC (hrW.to rLV0) rfl, rR.pre hC hrW⟩ rfl rfl hl.1 rfl (lv_room (Nat.le_of_ble_eq_true rfl)) dL_law_947 ⟨by show cells + mc + 0 ≤ 603072; omega, by show slots + ms + 0 ≤ 7223402; omega⟩) hS hD.b hD.b (fun H2 locs hrW hz2 hk2 hS => ?_)
  have hW := hD.wB hW hk2
  have hat1 := hD.k1 hat1 hk2
  have hat2 := hD.k2 hat2 hk2
  have hhz := Nat.le_trans hhz hz2
  refine lv_istore (lv' := [(7, .int (v)), (6, .int (nI K)), (0, .ref (b)), (1, .ref (ad 0 0)), (2, .ref (bd 0 0)), (3, .ref (o1)), (4, .ref (o2)), (5, .int (nI (8 * k)))]) hx hb dL_law_950 hl (by decide) rfl (fun ls hl => ?_)
  refine lv_aload_n hx hb dL_law_952 rfl (lv_at hl 4 rfl) ?_
  refine q_v (va_runV (As := []) (rest := []) ⟨hx, hb, hml, hown, hts⟩ (m_rthrown l G B R2 bd hw2) (cwV 0 hts gL_law_X8_thrown rfl rfl rfl (by decide +kernel) ⟨Nat.le_of_ble_eq_true rfl, Nat.le_of_ble_eq_true rfl⟩) ⟨rR.blind, qrecv hC (hrW.to rLV0) rfl, rR.pre hC hrW⟩ rfl rfl hl.1 rfl (lv_room (Nat.le_of_ble_eq_true rfl)) dL_law_953 ⟨by show cells + mc + 0 + 0 ≤ 603072; omega, by show slots + ms + 0 + 0 ≤ 7223402; omega⟩) hS (fun _ h => h.elim) (fun locs hS => ?_)
  refine q_ti (y := nI K) (by rw [hK2]) ?_
  refine lv_iload hx hb dL_law_956 (lv_at hl 1 rfl) ?_
  refine q_eq (tgt := 963) hx hb (by omega) (by omega) dL_law_958 (by decide) (fun h5 => ?_) (fun h5 => (by omega))
  refine lv_iload hx hb dL_law_963 (lv_at hl 1 rfl) ?_
  refine q_ne0 (tgt := 980) hx hb (by omega) dL_law_965 (by decide) (fun h6 => ?_) (fun h6 => ?_)
  · skip
    refine lv_goto (tgt := 1997) hx hb dL_law_980 (by decide) ?_
    refine va_forget (fun q hq => hS.2.2 q hq) ?_
    refine W.widen (k := cells + 24) (n := slots + 14000) (by omega) (by omega) ?_
    exact next σ2 R2 ad9 _ ls ⟨hv2, hR2, hw2, hW, hrW, ⟨_, hat1⟩, ⟨_, hat2⟩, hS.forget, hhz⟩ (by rw [hAE 0 0 (by decide) (fun z => absurd z (by decide))]; exact lv_sub hl [2, 3, 4, 5, 6, 7] rfl)
  · skip
    refine lv_aload_n hx hb dL_law_968 rfl (lv_at hl 5 rfl) ?_
    refine lv_iconst (v := nI 0) hx hb dL_law_969 (by decide) ?_
    refine r_lald hx hb hC.1 hat1 2 rfl (i := 0) (by decide) (by decide) (v := (v).toInt64) (hv1 h6) dL_law_970 ?_
    refine lv_iload hx hb dL_law_971 (lv_at hl 0 rfl) ?_
    refine lv_i2l (v := (v).toInt64) hx hb dL_law_973 rfl ?_
    refine W.lcmp hx hb dL_law_974 ?_
    refine q_ti (y := nI 0) (l_cmp _) ?_
    refine q_eq0 (tgt := 980) hx hb (by decide) dL_law_975 (by decide) (fun h9 => ?_) (fun h9 => (by omega))
    refine lv_goto (tgt := 1997) hx hb dL_law_980 (by decide) ?_
    refine va_forget (fun q hq => hS.2.2 q hq) ?_
    refine W.widen (k := cells + 24) (n := slots + 14000) (by omega) (by omega) ?_
    exact next σ2 R2 ad9 _ ls ⟨hv2, hR2, hw2, hW, hrW, ⟨_, hat1⟩, ⟨_, hat2⟩, hS.forget, hhz⟩ (by rw [hAE 0 0 (by decide) (fun z => absurd z (by decide))]; exact lv_sub hl [2, 3, 4, 5, 6, 7] rfl)
set_option maxHeartbeats 4000000 in
set_option maxRecDepth 100000 in
theorem c_answer (cx : lC p l s m meth c b L xs G es o1 o2 hz A B) {k : Nat} (hk : 8 * k + 8 ≤ L) {σ ρ ad : QSt} {H : Heap} {ls : Array Slot} (hI : lS G es A B bd o1 o2 hz s σ ρ ad H) (hl : lv_has ls 9 [(0, .ref b), (1, .ref (ad 0 0)), (2, .ref (bd 0 0)), (3, .ref o1), (4, .ref o2), (5, .int (nI (8 * k)))]) {cells slots : Nat} {Q : State → Prop} (hroom : cells + 24 ≤ 603072 ∧ slots + 14000 ≤ 7223402)
    (next : ∀ (σ ρ ad : QSt) (H : Heap) (ls : Array Slot), lS G es A B bd o1 o2 hz s σ ρ ad H → lv_has ls 9 [(0, .ref b), (1, .ref (ad 0 0)), (2, .ref (bd 0 0)), (3, .ref o1), (4, .ref o2), (5, .int (nI (8 * k)))] → W p l e room_1 s m #[Value.ref b] below meth c H [] (cells + 24) (slots + 14000) Q (F0 m 1997 ls [])) : W p l e room_1 s m #[Value.ref b] below meth c H [] cells slots Q (F0 m 983 ls []) := by
  obtain ⟨hx, hb, hml, hown, hts, hlocks, hst, hX, hbl, hC, hZ0, hzT, hzN, hL, hD⟩ := cx
  obtain ⟨hv, hR, hw, hW, hrW, ⟨f1, hat1⟩, ⟨f2, hat2⟩, hS, hhz⟩ := hI
  have hF := hv.1.wf
  have hB := hF.1
  have hn := hF.n
  obtain ⟨x1, hx1⟩ : ∃ x, x = xs (8 * k + 1) := ⟨_, rfl⟩
  obtain ⟨K, mc, ms, fr, lo, fr2, lo2, σ2, R2, v, hK, hmc, hms, ⟨hr1, hr2, hr3, hr4⟩, hv2, hR2, hw2, hK2, hPv, M1, M2⟩ := lk_answer (l := l) (G := G) (es := es) (A := A) (B := B) (σ := σ) (ρ := ρ) (ad := ad) (bd := bd) (o1 := o1) (f1 := f1) hst hv hR hw hD.n1 x1
  refine lv_aload_n hx hb dL_law_983 rfl (lv_at hl 1 rfl) ?_
  refine lv_aload_n hx hb dL_law_984 rfl (lv_at hl 0 rfl) ?_
  refine lv_iload hx hb dL_law_985 (lv_at hl 5 rfl) ?_
  refine lv_iconst (v := nI 1) hx hb dL_law_987 (by decide) ?_
  refine lv_iadd hx hb dL_law_988 ?_
  refine q_ti (nI_add (8 * k) 1) ?_
  refine va_sld (i := nI ((8 * k) + 1)) hx hb hX hbl (Nat.not_le.mpr hbl) hS (vp_in_nI (n := 8 * k + 1) (by omega) (by omega)) dL_law_989 ?_
  refine q_ti (y := x1) (by rw [hx1, nI_clamp (by omega)]) ?_
  refine lv_aload_n hx hb dL_law_990 rfl (lv_at hl 3 rfl) ?_
  refine q_wv (vx_runSW (As := [.ref (ad 0 0), .int (x1), .ref (o1)]) (rest := []) ⟨hx, hb, hml, hown, hts⟩ M1 (vx_cwSW 3 hts gL_law_L_answer rfl rfl rfl (by decide +kernel) ⟨by show fr + 1 ≤ 21; omega, by show 8 + (4 + 11) + lo ≤ 10922; omega⟩) ⟨qLg.blind, qLg.pre hC hW (hD.z hZ0 hS) (hD.up hhz) hzT hzN hat1⟩ rfl rfl hl.1 rfl (lv_room (Nat.le_of_ble_eq_true rfl)) dL_law_991 ⟨by show cells + mc ≤ 603072; omega, by show slots + ms ≤ 7223402; omega⟩) hS hD.a1 hD.a1 (fun H1 locs hP9 hz1 hk1 hS => ?_)
  obtain ⟨ad9, hAE, hW, f3, hat1, hv1⟩ := hP9
  have hrW := hD.w1 hrW hk1
  have hat2 := hD.c1 hat2 hk1
  have hhz := Nat.le_trans hhz hz1
  refine lv_istore (lv' := [(6, .int (nI K)), (0, .ref (b)), (1, .ref (ad 0 0)), (2, .ref (bd 0 0)), (3, .ref (o1)), (4, .ref (o2)), (5, .int (nI (8 * k)))]) hx hb dL_law_994 hl (by decide) rfl (fun ls hl => ?_)
  refine lv_aload_n hx hb dL_law_996 rfl (lv_at hl 3 rfl) ?_
  refine lv_aload_n hx hb dL_law_997 rfl (lv_at hl 1 rfl) ?_
  refine lv_iload hx hb dL_law_998 (lv_at hl 6 rfl) ?_
  refine lv_iconst (v := nI 1) hx hb dL_law_1000 (by decide) ?_
  refine lv_iadd hx hb dL_law_1001 ?_
  refine q_ti (nI_add (8 * k) 1) ?_
  refine va_sld (i := nI ((8 * k) + 1)) hx hb hX hbl (Nat.not_le.mpr hbl) hS (vp_in_nI (n := 8 * k + 1) (by omega) (by omega)) dL_law_1002 ?_
  refine q_ti (y := x1) (by rw [hx1, nI_clamp (by omega)]) ?_
  refine q_wv (va_runV (As := [.int (x1)]) (rest := []) ⟨hx, hb, hml, hown, hts⟩ M2 (cwV 1 hts gL_law_X8_answer rfl rfl rfl (by decide +kernel) ⟨by show fr2 + 1 ≤ 21; omega, by show 8 + (2 + 11) + lo2 ≤ 10922; omega⟩) ⟨rR.blind, qrecv hC (hrW.to rLV0) rfl, rR.pre hC hrW⟩ rfl rfl hl.1 rfl (lv_room (Nat.le_of_ble_eq_true rfl)) dL_law_1003 ⟨by show cells + mc + 0 ≤ 603072; omega, by show slots + ms + 0 ≤ 7223402; omega⟩) hS hD.b hD.b (fun H2 locs hrW hz2 hk2 hS => ?_)
  have hW := hD.wB hW hk2
  have hat1 := hD.k1 hat1 hk2
  have hat2 := hD.k2 hat2 hk2
  have hhz := Nat.le_trans hhz hz2
  refine lv_istore (lv' := [(7, .int (v)), (6, .int (nI K)), (0, .ref (b)), (1, .ref (ad 0 0)), (2, .ref (bd 0 0)), (3, .ref (o1)), (4, .ref (o2)), (5, .int (nI (8 * k)))]) hx hb dL_law_1006 hl (by decide) rfl (fun ls hl => ?_)
  refine lv_aload_n hx hb dL_law_1008 rfl (lv_at hl 4 rfl) ?_
  refine q_v (va_runV (As := []) (rest := []) ⟨hx, hb, hml, hown, hts⟩ (m_rthrown l G B R2 bd hw2) (cwV 0 hts gL_law_X8_thrown rfl rfl rfl (by decide +kernel) ⟨Nat.le_of_ble_eq_true rfl, Nat.le_of_ble_eq_true rfl⟩) ⟨rR.blind, qrecv hC (hrW.to rLV0) rfl, rR.pre hC hrW⟩ rfl rfl hl.1 rfl (lv_room (Nat.le_of_ble_eq_true rfl)) dL_law_1009 ⟨by show cells + mc + 0 + 0 ≤ 603072; omega, by show slots + ms + 0 + 0 ≤ 7223402; omega⟩) hS (fun _ h => h.elim) (fun locs hS => ?_)
  refine q_ti (y := nI K) (by rw [hK2]) ?_
  refine lv_iload hx hb dL_law_1012 (lv_at hl 1 rfl) ?_
  refine q_eq (tgt := 1019) hx hb (by omega) (by omega) dL_law_1014 (by decide) (fun h5 => ?_) (fun h5 => (by omega))
  refine lv_iload hx hb dL_law_1019 (lv_at hl 1 rfl) ?_
  refine q_ne0 (tgt := 1036) hx hb (by omega) dL_law_1021 (by decide) (fun h6 => ?_) (fun h6 => ?_)
  · skip
    refine lv_goto (tgt := 1997) hx hb dL_law_1036 (by decide) ?_
    refine va_forget (fun q hq => hS.2.2 q hq) ?_
    refine W.widen (k := cells + 24) (n := slots + 14000) (by omega) (by omega) ?_
    exact next σ2 R2 ad9 _ ls ⟨hv2, hR2, hw2, hW, hrW, ⟨_, hat1⟩, ⟨_, hat2⟩, hS.forget, hhz⟩ (by rw [hAE 0 0 (by decide) (fun z => absurd z (by decide))]; exact lv_sub hl [2, 3, 4, 5, 6, 7] rfl)
  · skip
    refine lv_aload_n hx hb dL_law_1024 rfl (lv_at hl 5 rfl) ?_
    refine lv_iconst (v := nI 0) hx hb dL_law_1025 (by decide) ?_
    refine r_lald hx hb hC.1 hat1 2 rfl (i := 0) (by decide) (by decide) (v := (v).toInt64) (hv1 h6) dL_law_1026 ?_
    refine lv_iload hx hb dL_law_1027 (lv_at hl 0 rfl) ?_
    refine lv_i2l (v := (v).toInt64) hx hb dL_law_1029 rfl ?_
    refine W.lcmp hx hb dL_law_1030 ?_
    refine q_ti (y := nI 0) (l_cmp _) ?_
    refine q_eq0 (tgt := 1036) hx hb (by decide) dL_law_1031 (by decide) (fun h9 => ?_) (fun h9 => (by omega))
    refine lv_goto (tgt := 1997) hx hb dL_law_1036 (by decide) ?_
    refine va_forget (fun q hq => hS.2.2 q hq) ?_
    refine W.widen (k := cells + 24) (n := slots + 14000) (by omega) (by omega) ?_
    exact next σ2 R2 ad9 _ ls ⟨hv2, hR2, hw2, hW, hrW, ⟨_, hat1⟩, ⟨_, hat2⟩, hS.forget, hhz⟩ (by rw [hAE 0 0 (by decide) (fun z => absurd z (by decide))]; exact lv_sub hl [2, 3, 4, 5, 6, 7] rfl)
set_option maxHeartbeats 4000000 in
set_option maxRecDepth 100000 in
theorem c_addAlert (cx : lC p l s m meth c b L xs G es o1 o2 hz A B) {k : Nat} (hk : 8 * k + 8 ≤ L) {σ ρ ad : QSt} {H : Heap} {ls : Array Slot} (hI : lS G es A B bd o1 o2 hz s σ ρ ad H) (hl : lv_has ls 9 [(0, .ref b), (1, .ref (ad 0 0)), (2, .ref (bd 0 0)), (3, .ref o1), (4, .ref o2), (5, .int (nI (8 * k)))]) {cells slots : Nat} {Q : State → Prop} (hroom : cells + 24 ≤ 603072 ∧ slots + 14000 ≤ 7223402)
    (next : ∀ (σ ρ ad : QSt) (H : Heap) (ls : Array Slot), lS G es A B bd o1 o2 hz s σ ρ ad H → lv_has ls 9 [(0, .ref b), (1, .ref (ad 0 0)), (2, .ref (bd 0 0)), (3, .ref o1), (4, .ref o2), (5, .int (nI (8 * k)))] → W p l e room_1 s m #[Value.ref b] below meth c H [] (cells + 24) (slots + 14000) Q (F0 m 1997 ls [])) : W p l e room_1 s m #[Value.ref b] below meth c H [] cells slots Q (F0 m 1039 ls []) := by
  obtain ⟨hx, hb, hml, hown, hts, hlocks, hst, hX, hbl, hC, hZ0, hzT, hzN, hL, hD⟩ := cx
  obtain ⟨hv, hR, hw, hW, hrW, ⟨f1, hat1⟩, ⟨f2, hat2⟩, hS, hhz⟩ := hI
  have hF := hv.1.wf
  have hB := hF.1
  have hn := hF.n
  obtain ⟨x1, hx1⟩ : ∃ x, x = xs (8 * k + 1) := ⟨_, rfl⟩
  obtain ⟨x2, hx2⟩ : ∃ x, x = xs (8 * k + 2) := ⟨_, rfl⟩
  obtain ⟨x3, hx3⟩ : ∃ x, x = xs (8 * k + 3) := ⟨_, rfl⟩
  obtain ⟨x4, hx4⟩ : ∃ x, x = xs (8 * k + 4) := ⟨_, rfl⟩
  obtain ⟨x5, hx5⟩ : ∃ x, x = xs (8 * k + 5) := ⟨_, rfl⟩
  obtain ⟨x6, hx6⟩ : ∃ x, x = xs (8 * k + 6) := ⟨_, rfl⟩
  obtain ⟨x7, hx7⟩ : ∃ x, x = xs (8 * k + 7) := ⟨_, rfl⟩
  obtain ⟨K, mc, ms, fr, lo, fr2, lo2, σ2, R2, v, hK, hmc, hms, ⟨hr1, hr2, hr3, hr4⟩, hv2, hR2, hw2, hK2, hPv, M1, M2⟩ := lk_addAlert (l := l) (G := G) (es := es) (A := A) (B := B) (σ := σ) (ρ := ρ) (ad := ad) (bd := bd) (o1 := o1) (f1 := f1) hst hv hR hw hD.n1 x1 x2 x3 x4 x5 x6 x7
  refine lv_aload_n hx hb dL_law_1039 rfl (lv_at hl 1 rfl) ?_
  refine lv_aload_n hx hb dL_law_1040 rfl (lv_at hl 0 rfl) ?_
  refine lv_iload hx hb dL_law_1041 (lv_at hl 5 rfl) ?_
  refine lv_iconst (v := nI 1) hx hb dL_law_1043 (by decide) ?_
  refine lv_iadd hx hb dL_law_1044 ?_
  refine q_ti (nI_add (8 * k) 1) ?_
  refine va_sld (i := nI ((8 * k) + 1)) hx hb hX hbl (Nat.not_le.mpr hbl) hS (vp_in_nI (n := 8 * k + 1) (by omega) (by omega)) dL_law_1045 ?_
  refine q_ti (y := x1) (by rw [hx1, nI_clamp (by omega)]) ?_
  refine lv_aload_n hx hb dL_law_1046 rfl (lv_at hl 0 rfl) ?_
  refine lv_iload hx hb dL_law_1047 (lv_at hl 5 rfl) ?_
  refine lv_iconst (v := nI 2) hx hb dL_law_1049 (by decide) ?_
  refine lv_iadd hx hb dL_law_1050 ?_
  refine q_ti (nI_add (8 * k) 2) ?_
  refine va_sld (i := nI ((8 * k) + 2)) hx hb hX hbl (Nat.not_le.mpr hbl) hS (vp_in_nI (n := 8 * k + 2) (by omega) (by omega)) dL_law_1051 ?_
  refine q_ti (y := x2) (by rw [hx2, nI_clamp (by omega)]) ?_
  refine lv_aload_n hx hb dL_law_1052 rfl (lv_at hl 0 rfl) ?_
  refine lv_iload hx hb dL_law_1053 (lv_at hl 5 rfl) ?_
  refine lv_iconst (v := nI 3) hx hb dL_law_1055 (by decide) ?_
  refine lv_iadd hx hb dL_law_1056 ?_
  refine q_ti (nI_add (8 * k) 3) ?_
  refine va_sld (i := nI ((8 * k) + 3)) hx hb hX hbl (Nat.not_le.mpr hbl) hS (vp_in_nI (n := 8 * k + 3) (by omega) (by omega)) dL_law_1057 ?_
  refine q_ti (y := x3) (by rw [hx3, nI_clamp (by omega)]) ?_
  refine lv_aload_n hx hb dL_law_1058 rfl (lv_at hl 0 rfl) ?_
  refine lv_iload hx hb dL_law_1059 (lv_at hl 5 rfl) ?_
  refine lv_iconst (v := nI 4) hx hb dL_law_1061 (by decide) ?_
  refine lv_iadd hx hb dL_law_1062 ?_
  refine q_ti (nI_add (8 * k) 4) ?_
  refine va_sld (i := nI ((8 * k) + 4)) hx hb hX hbl (Nat.not_le.mpr hbl) hS (vp_in_nI (n := 8 * k + 4) (by omega) (by omega)) dL_law_1063 ?_
  refine q_ti (y := x4) (by rw [hx4, nI_clamp (by omega)]) ?_
  refine lv_aload_n hx hb dL_law_1064 rfl (lv_at hl 0 rfl) ?_
  refine lv_iload hx hb dL_law_1065 (lv_at hl 5 rfl) ?_
  refine lv_iconst (v := nI 5) hx hb dL_law_1067 (by decide) ?_
  refine lv_iadd hx hb dL_law_1068 ?_
  refine q_ti (nI_add (8 * k) 5) ?_
  refine va_sld (i := nI ((8 * k) + 5)) hx hb hX hbl (Nat.not_le.mpr hbl) hS (vp_in_nI (n := 8 * k + 5) (by omega) (by omega)) dL_law_1069 ?_
  refine q_ti (y := x5) (by rw [hx5, nI_clamp (by omega)]) ?_
  refine lv_aload_n hx hb dL_law_1070 rfl (lv_at hl 0 rfl) ?_
  refine lv_iload hx hb dL_law_1071 (lv_at hl 5 rfl) ?_
  refine lv_bipush (v := nI 6) hx hb dL_law_1073 (by decide) ?_
  refine lv_iadd hx hb dL_law_1075 ?_
  refine q_ti (nI_add (8 * k) 6) ?_
  refine va_sld (i := nI ((8 * k) + 6)) hx hb hX hbl (Nat.not_le.mpr hbl) hS (vp_in_nI (n := 8 * k + 6) (by omega) (by omega)) dL_law_1076 ?_
  refine q_ti (y := x6) (by rw [hx6, nI_clamp (by omega)]) ?_
  refine lv_aload_n hx hb dL_law_1077 rfl (lv_at hl 0 rfl) ?_
  refine lv_iload hx hb dL_law_1078 (lv_at hl 5 rfl) ?_
  refine lv_bipush (v := nI 7) hx hb dL_law_1080 (by decide) ?_
  refine lv_iadd hx hb dL_law_1082 ?_
  refine q_ti (nI_add (8 * k) 7) ?_
  refine va_sld (i := nI ((8 * k) + 7)) hx hb hX hbl (Nat.not_le.mpr hbl) hS (vp_in_nI (n := 8 * k + 7) (by omega) (by omega)) dL_law_1083 ?_
  refine q_ti (y := x7) (by rw [hx7, nI_clamp (by omega)]) ?_
  refine lv_aload_n hx hb dL_law_1084 rfl (lv_at hl 3 rfl) ?_
  refine q_wv (vx_runSW (As := [.ref (ad 0 0), .int (x1), .int (x2), .int (x3), .int (x4), .int (x5), .int (x6), .int (x7), .ref (o1)]) (rest := []) ⟨hx, hb, hml, hown, hts⟩ M1 (vx_cwSW 9 hts gL_law_L_addAlert rfl rfl rfl (by decide +kernel) ⟨by show fr + 1 ≤ 21; omega, by show 8 + (10 + 11) + lo ≤ 10922; omega⟩) ⟨qLg.blind, qLg.pre hC hW (hD.z hZ0 hS) (hD.up hhz) hzT hzN hat1⟩ rfl rfl hl.1 rfl (lv_room (Nat.le_of_ble_eq_true rfl)) dL_law_1085 ⟨by show cells + mc ≤ 603072; omega, by show slots + ms ≤ 7223402; omega⟩) hS hD.a1 hD.a1 (fun H1 locs hP9 hz1 hk1 hS => ?_)
  obtain ⟨ad9, hAE, hW, f3, hat1, hv1⟩ := hP9
  have hrW := hD.w1 hrW hk1
  have hat2 := hD.c1 hat2 hk1
  have hhz := Nat.le_trans hhz hz1
  refine lv_istore (lv' := [(6, .int (nI K)), (0, .ref (b)), (1, .ref (ad 0 0)), (2, .ref (bd 0 0)), (3, .ref (o1)), (4, .ref (o2)), (5, .int (nI (8 * k)))]) hx hb dL_law_1088 hl (by decide) rfl (fun ls hl => ?_)
  refine lv_aload_n hx hb dL_law_1090 rfl (lv_at hl 3 rfl) ?_
  refine lv_aload_n hx hb dL_law_1091 rfl (lv_at hl 1 rfl) ?_
  refine lv_iload hx hb dL_law_1092 (lv_at hl 6 rfl) ?_
  refine lv_iconst (v := nI 1) hx hb dL_law_1094 (by decide) ?_
  refine lv_iadd hx hb dL_law_1095 ?_
  refine q_ti (nI_add (8 * k) 1) ?_
  refine va_sld (i := nI ((8 * k) + 1)) hx hb hX hbl (Nat.not_le.mpr hbl) hS (vp_in_nI (n := 8 * k + 1) (by omega) (by omega)) dL_law_1096 ?_
  refine q_ti (y := x1) (by rw [hx1, nI_clamp (by omega)]) ?_
  refine lv_aload_n hx hb dL_law_1097 rfl (lv_at hl 1 rfl) ?_
  refine lv_iload hx hb dL_law_1098 (lv_at hl 6 rfl) ?_
  refine lv_iconst (v := nI 2) hx hb dL_law_1100 (by decide) ?_
  refine lv_iadd hx hb dL_law_1101 ?_
  refine q_ti (nI_add (8 * k) 2) ?_
  refine va_sld (i := nI ((8 * k) + 2)) hx hb hX hbl (Nat.not_le.mpr hbl) hS (vp_in_nI (n := 8 * k + 2) (by omega) (by omega)) dL_law_1102 ?_
  refine q_ti (y := x2) (by rw [hx2, nI_clamp (by omega)]) ?_
  refine lv_aload_n hx hb dL_law_1103 rfl (lv_at hl 1 rfl) ?_
  refine lv_iload hx hb dL_law_1104 (lv_at hl 6 rfl) ?_
  refine lv_iconst (v := nI 3) hx hb dL_law_1106 (by decide) ?_
  refine lv_iadd hx hb dL_law_1107 ?_
  refine q_ti (nI_add (8 * k) 3) ?_
  refine va_sld (i := nI ((8 * k) + 3)) hx hb hX hbl (Nat.not_le.mpr hbl) hS (vp_in_nI (n := 8 * k + 3) (by omega) (by omega)) dL_law_1108 ?_
  refine q_ti (y := x3) (by rw [hx3, nI_clamp (by omega)]) ?_
  refine lv_aload_n hx hb dL_law_1109 rfl (lv_at hl 1 rfl) ?_
  refine lv_iload hx hb dL_law_1110 (lv_at hl 6 rfl) ?_
  refine lv_iconst (v := nI 4) hx hb dL_law_1112 (by decide) ?_
  refine lv_iadd hx hb dL_law_1113 ?_
  refine q_ti (nI_add (8 * k) 4) ?_
  refine va_sld (i := nI ((8 * k) + 4)) hx hb hX hbl (Nat.not_le.mpr hbl) hS (vp_in_nI (n := 8 * k + 4) (by omega) (by omega)) dL_law_1114 ?_
  refine q_ti (y := x4) (by rw [hx4, nI_clamp (by omega)]) ?_
  refine lv_aload_n hx hb dL_law_1115 rfl (lv_at hl 1 rfl) ?_
  refine lv_iload hx hb dL_law_1116 (lv_at hl 6 rfl) ?_
  refine lv_iconst (v := nI 5) hx hb dL_law_1118 (by decide) ?_
  refine lv_iadd hx hb dL_law_1119 ?_
  refine q_ti (nI_add (8 * k) 5) ?_
  refine va_sld (i := nI ((8 * k) + 5)) hx hb hX hbl (Nat.not_le.mpr hbl) hS (vp_in_nI (n := 8 * k + 5) (by omega) (by omega)) dL_law_1120 ?_
  refine q_ti (y := x5) (by rw [hx5, nI_clamp (by omega)]) ?_
  refine lv_aload_n hx hb dL_law_1121 rfl (lv_at hl 1 rfl) ?_
  refine lv_iload hx hb dL_law_1122 (lv_at hl 6 rfl) ?_
  refine lv_bipush (v := nI 6) hx hb dL_law_1124 (by decide) ?_
  refine lv_iadd hx hb dL_law_1126 ?_
  refine q_ti (nI_add (8 * k) 6) ?_
  refine va_sld (i := nI ((8 * k) + 6)) hx hb hX hbl (Nat.not_le.mpr hbl) hS (vp_in_nI (n := 8 * k + 6) (by omega) (by omega)) dL_law_1127 ?_
  refine q_ti (y := x6) (by rw [hx6, nI_clamp (by omega)]) ?_
  refine lv_aload_n hx hb dL_law_1128 rfl (lv_at hl 1 rfl) ?_
  refine lv_iload hx hb dL_law_1129 (lv_at hl 6 rfl) ?_
  refine lv_bipush (v := nI 7) hx hb dL_law_1131 (by decide) ?_
  refine lv_iadd hx hb dL_law_1133 ?_
  refine q_ti (nI_add (8 * k) 7) ?_
  refine va_sld (i := nI ((8 * k) + 7)) hx hb hX hbl (Nat.not_le.mpr hbl) hS (vp_in_nI (n := 8 * k + 7) (by omega) (by omega)) dL_law_1134 ?_
  refine q_ti (y := x7) (by rw [hx7, nI_clamp (by omega)]) ?_
  refine q_wv (va_runV (As := [.int (x1), .int (x2), .int (x3), .int (x4), .int (x5), .int (x6), .int (x7)]) (rest := []) ⟨hx, hb, hml, hown, hts⟩ M2 (cwV 7 hts gL_law_X8_addAlert rfl rfl rfl (by decide +kernel) ⟨by show fr2 + 1 ≤ 21; omega, by show 8 + (10 + 11) + lo2 ≤ 10922; omega⟩) ⟨rR.blind, qrecv hC (hrW.to rLV0) rfl, rR.pre hC hrW⟩ rfl rfl hl.1 rfl (lv_room (Nat.le_of_ble_eq_true rfl)) dL_law_1135 ⟨by show cells + mc + 0 ≤ 603072; omega, by show slots + ms + 0 ≤ 7223402; omega⟩) hS hD.b hD.b (fun H2 locs hrW hz2 hk2 hS => ?_)
  have hW := hD.wB hW hk2
  have hat1 := hD.k1 hat1 hk2
  have hat2 := hD.k2 hat2 hk2
  have hhz := Nat.le_trans hhz hz2
  refine lv_istore (lv' := [(7, .int (v)), (6, .int (nI K)), (0, .ref (b)), (1, .ref (ad 0 0)), (2, .ref (bd 0 0)), (3, .ref (o1)), (4, .ref (o2)), (5, .int (nI (8 * k)))]) hx hb dL_law_1138 hl (by decide) rfl (fun ls hl => ?_)
  refine lv_aload_n hx hb dL_law_1140 rfl (lv_at hl 4 rfl) ?_
  refine q_v (va_runV (As := []) (rest := []) ⟨hx, hb, hml, hown, hts⟩ (m_rthrown l G B R2 bd hw2) (cwV 0 hts gL_law_X8_thrown rfl rfl rfl (by decide +kernel) ⟨Nat.le_of_ble_eq_true rfl, Nat.le_of_ble_eq_true rfl⟩) ⟨rR.blind, qrecv hC (hrW.to rLV0) rfl, rR.pre hC hrW⟩ rfl rfl hl.1 rfl (lv_room (Nat.le_of_ble_eq_true rfl)) dL_law_1141 ⟨by show cells + mc + 0 + 0 ≤ 603072; omega, by show slots + ms + 0 + 0 ≤ 7223402; omega⟩) hS (fun _ h => h.elim) (fun locs hS => ?_)
  refine q_ti (y := nI K) (by rw [hK2]) ?_
  refine lv_iload hx hb dL_law_1144 (lv_at hl 1 rfl) ?_
  refine q_eq (tgt := 1151) hx hb (by omega) (by omega) dL_law_1146 (by decide) (fun h5 => ?_) (fun h5 => (by omega))
  refine lv_iload hx hb dL_law_1151 (lv_at hl 1 rfl) ?_
  refine q_ne0 (tgt := 1168) hx hb (by omega) dL_law_1153 (by decide) (fun h6 => ?_) (fun h6 => ?_)
  · skip
    refine lv_goto (tgt := 1997) hx hb dL_law_1168 (by decide) ?_
    refine va_forget (fun q hq => hS.2.2 q hq) ?_
    refine W.widen (k := cells + 24) (n := slots + 14000) (by omega) (by omega) ?_
    exact next σ2 R2 ad9 _ ls ⟨hv2, hR2, hw2, hW, hrW, ⟨_, hat1⟩, ⟨_, hat2⟩, hS.forget, hhz⟩ (by rw [hAE 0 0 (by decide) (fun z => absurd z (by decide))]; exact lv_sub hl [2, 3, 4, 5, 6, 7] rfl)
  · skip
    refine lv_aload_n hx hb dL_law_1156 rfl (lv_at hl 5 rfl) ?_
    refine lv_iconst (v := nI 0) hx hb dL_law_1157 (by decide) ?_
    refine r_lald hx hb hC.1 hat1 2 rfl (i := 0) (by decide) (by decide) (v := (v).toInt64) (hv1 h6) dL_law_1158 ?_
    refine lv_iload hx hb dL_law_1159 (lv_at hl 0 rfl) ?_
    refine lv_i2l (v := (v).toInt64) hx hb dL_law_1161 rfl ?_
    refine W.lcmp hx hb dL_law_1162 ?_
    refine q_ti (y := nI 0) (l_cmp _) ?_
    refine q_eq0 (tgt := 1168) hx hb (by decide) dL_law_1163 (by decide) (fun h9 => ?_) (fun h9 => (by omega))
    refine lv_goto (tgt := 1997) hx hb dL_law_1168 (by decide) ?_
    refine va_forget (fun q hq => hS.2.2 q hq) ?_
    refine W.widen (k := cells + 24) (n := slots + 14000) (by omega) (by omega) ?_
    exact next σ2 R2 ad9 _ ls ⟨hv2, hR2, hw2, hW, hrW, ⟨_, hat1⟩, ⟨_, hat2⟩, hS.forget, hhz⟩ (by rw [hAE 0 0 (by decide) (fun z => absurd z (by decide))]; exact lv_sub hl [2, 3, 4, 5, 6, 7] rfl)
set_option maxHeartbeats 4000000 in
set_option maxRecDepth 100000 in
theorem c_alertState (cx : lC p l s m meth c b L xs G es o1 o2 hz A B) {k : Nat} (hk : 8 * k + 8 ≤ L) {σ ρ ad : QSt} {H : Heap} {ls : Array Slot} (hI : lS G es A B bd o1 o2 hz s σ ρ ad H) (hl : lv_has ls 9 [(0, .ref b), (1, .ref (ad 0 0)), (2, .ref (bd 0 0)), (3, .ref o1), (4, .ref o2), (5, .int (nI (8 * k)))]) {cells slots : Nat} {Q : State → Prop} (hroom : cells + 24 ≤ 603072 ∧ slots + 14000 ≤ 7223402)
    (next : ∀ (σ ρ ad : QSt) (H : Heap) (ls : Array Slot), lS G es A B bd o1 o2 hz s σ ρ ad H → lv_has ls 9 [(0, .ref b), (1, .ref (ad 0 0)), (2, .ref (bd 0 0)), (3, .ref o1), (4, .ref o2), (5, .int (nI (8 * k)))] → W p l e room_1 s m #[Value.ref b] below meth c H [] (cells + 24) (slots + 14000) Q (F0 m 1997 ls [])) : W p l e room_1 s m #[Value.ref b] below meth c H [] cells slots Q (F0 m 1171 ls []) := by
  obtain ⟨hx, hb, hml, hown, hts, hlocks, hst, hX, hbl, hC, hZ0, hzT, hzN, hL, hD⟩ := cx
  obtain ⟨hv, hR, hw, hW, hrW, ⟨f1, hat1⟩, ⟨f2, hat2⟩, hS, hhz⟩ := hI
  have hF := hv.1.wf
  have hB := hF.1
  have hn := hF.n
  obtain ⟨x1, hx1⟩ : ∃ x, x = xs (8 * k + 1) := ⟨_, rfl⟩
  obtain ⟨K, mc, ms, fr, lo, fr2, lo2, σ2, R2, v, hK, hmc, hms, ⟨hr1, hr2, hr3, hr4⟩, hv2, hR2, hw2, hK2, hPv, M1, M2⟩ := lk_alertState (l := l) (G := G) (es := es) (A := A) (B := B) (σ := σ) (ρ := ρ) (ad := ad) (bd := bd) (o1 := o1) (f1 := f1) hst hv hR hw hD.n1 x1
  refine lv_aload_n hx hb dL_law_1171 rfl (lv_at hl 1 rfl) ?_
  refine lv_aload_n hx hb dL_law_1172 rfl (lv_at hl 0 rfl) ?_
  refine lv_iload hx hb dL_law_1173 (lv_at hl 5 rfl) ?_
  refine lv_iconst (v := nI 1) hx hb dL_law_1175 (by decide) ?_
  refine lv_iadd hx hb dL_law_1176 ?_
  refine q_ti (nI_add (8 * k) 1) ?_
  refine va_sld (i := nI ((8 * k) + 1)) hx hb hX hbl (Nat.not_le.mpr hbl) hS (vp_in_nI (n := 8 * k + 1) (by omega) (by omega)) dL_law_1177 ?_
  refine q_ti (y := x1) (by rw [hx1, nI_clamp (by omega)]) ?_
  refine lv_aload_n hx hb dL_law_1178 rfl (lv_at hl 3 rfl) ?_
  refine q_wv (vx_runSW (As := [.ref (ad 0 0), .int (x1), .ref (o1)]) (rest := []) ⟨hx, hb, hml, hown, hts⟩ M1 (vx_cwSW 3 hts gL_law_L_alertState rfl rfl rfl (by decide +kernel) ⟨by show fr + 1 ≤ 21; omega, by show 8 + (4 + 11) + lo ≤ 10922; omega⟩) ⟨qLg.blind, qLg.pre hC hW (hD.z hZ0 hS) (hD.up hhz) hzT hzN hat1⟩ rfl rfl hl.1 rfl (lv_room (Nat.le_of_ble_eq_true rfl)) dL_law_1179 ⟨by show cells + mc ≤ 603072; omega, by show slots + ms ≤ 7223402; omega⟩) hS hD.a1 hD.a1 (fun H1 locs hP9 hz1 hk1 hS => ?_)
  obtain ⟨ad9, hAE, hW, f3, hat1, hv1⟩ := hP9
  have hrW := hD.w1 hrW hk1
  have hat2 := hD.c1 hat2 hk1
  have hhz := Nat.le_trans hhz hz1
  refine lv_istore (lv' := [(6, .int (nI K)), (0, .ref (b)), (1, .ref (ad 0 0)), (2, .ref (bd 0 0)), (3, .ref (o1)), (4, .ref (o2)), (5, .int (nI (8 * k)))]) hx hb dL_law_1182 hl (by decide) rfl (fun ls hl => ?_)
  refine lv_aload_n hx hb dL_law_1184 rfl (lv_at hl 3 rfl) ?_
  refine lv_aload_n hx hb dL_law_1185 rfl (lv_at hl 1 rfl) ?_
  refine lv_iload hx hb dL_law_1186 (lv_at hl 6 rfl) ?_
  refine lv_iconst (v := nI 1) hx hb dL_law_1188 (by decide) ?_
  refine lv_iadd hx hb dL_law_1189 ?_
  refine q_ti (nI_add (8 * k) 1) ?_
  refine va_sld (i := nI ((8 * k) + 1)) hx hb hX hbl (Nat.not_le.mpr hbl) hS (vp_in_nI (n := 8 * k + 1) (by omega) (by omega)) dL_law_1190 ?_
  refine q_ti (y := x1) (by rw [hx1, nI_clamp (by omega)]) ?_
  refine q_wv (va_runV (As := [.int (x1)]) (rest := []) ⟨hx, hb, hml, hown, hts⟩ M2 (cwV 1 hts gL_law_X8_alertState rfl rfl rfl (by decide +kernel) ⟨by show fr2 + 1 ≤ 21; omega, by show 8 + (2 + 11) + lo2 ≤ 10922; omega⟩) ⟨rR.blind, qrecv hC (hrW.to rLV0) rfl, rR.pre hC hrW⟩ rfl rfl hl.1 rfl (lv_room (Nat.le_of_ble_eq_true rfl)) dL_law_1191 ⟨by show cells + mc + 0 ≤ 603072; omega, by show slots + ms + 0 ≤ 7223402; omega⟩) hS hD.b hD.b (fun H2 locs hrW hz2 hk2 hS => ?_)
  have hW := hD.wB hW hk2
  have hat1 := hD.k1 hat1 hk2
  have hat2 := hD.k2 hat2 hk2
  have hhz := Nat.le_trans hhz hz2
  refine lv_istore (lv' := [(7, .int (v)), (6, .int (nI K)), (0, .ref (b)), (1, .ref (ad 0 0)), (2, .ref (bd 0 0)), (3, .ref (o1)), (4, .ref (o2)), (5, .int (nI (8 * k)))]) hx hb dL_law_1194 hl (by decide) rfl (fun ls hl => ?_)
  refine lv_aload_n hx hb dL_law_1196 rfl (lv_at hl 4 rfl) ?_
  refine q_v (va_runV (As := []) (rest := []) ⟨hx, hb, hml, hown, hts⟩ (m_rthrown l G B R2 bd hw2) (cwV 0 hts gL_law_X8_thrown rfl rfl rfl (by decide +kernel) ⟨Nat.le_of_ble_eq_true rfl, Nat.le_of_ble_eq_true rfl⟩) ⟨rR.blind, qrecv hC (hrW.to rLV0) rfl, rR.pre hC hrW⟩ rfl rfl hl.1 rfl (lv_room (Nat.le_of_ble_eq_true rfl)) dL_law_1197 ⟨by show cells + mc + 0 + 0 ≤ 603072; omega, by show slots + ms + 0 + 0 ≤ 7223402; omega⟩) hS (fun _ h => h.elim) (fun locs hS => ?_)
  refine q_ti (y := nI K) (by rw [hK2]) ?_
  refine lv_iload hx hb dL_law_1200 (lv_at hl 1 rfl) ?_
  refine q_eq (tgt := 1207) hx hb (by omega) (by omega) dL_law_1202 (by decide) (fun h5 => ?_) (fun h5 => (by omega))
  refine lv_iload hx hb dL_law_1207 (lv_at hl 1 rfl) ?_
  refine q_ne0 (tgt := 1224) hx hb (by omega) dL_law_1209 (by decide) (fun h6 => ?_) (fun h6 => ?_)
  · skip
    refine lv_goto (tgt := 1997) hx hb dL_law_1224 (by decide) ?_
    refine va_forget (fun q hq => hS.2.2 q hq) ?_
    refine W.widen (k := cells + 24) (n := slots + 14000) (by omega) (by omega) ?_
    exact next σ2 R2 ad9 _ ls ⟨hv2, hR2, hw2, hW, hrW, ⟨_, hat1⟩, ⟨_, hat2⟩, hS.forget, hhz⟩ (by rw [hAE 0 0 (by decide) (fun z => absurd z (by decide))]; exact lv_sub hl [2, 3, 4, 5, 6, 7] rfl)
  · skip
    refine lv_aload_n hx hb dL_law_1212 rfl (lv_at hl 5 rfl) ?_
    refine lv_iconst (v := nI 0) hx hb dL_law_1213 (by decide) ?_
    refine r_lald hx hb hC.1 hat1 2 rfl (i := 0) (by decide) (by decide) (v := (v).toInt64) (hv1 h6) dL_law_1214 ?_
    refine lv_iload hx hb dL_law_1215 (lv_at hl 0 rfl) ?_
    refine lv_i2l (v := (v).toInt64) hx hb dL_law_1217 rfl ?_
    refine W.lcmp hx hb dL_law_1218 ?_
    refine q_ti (y := nI 0) (l_cmp _) ?_
    refine q_eq0 (tgt := 1224) hx hb (by decide) dL_law_1219 (by decide) (fun h9 => ?_) (fun h9 => (by omega))
    refine lv_goto (tgt := 1997) hx hb dL_law_1224 (by decide) ?_
    refine va_forget (fun q hq => hS.2.2 q hq) ?_
    refine W.widen (k := cells + 24) (n := slots + 14000) (by omega) (by omega) ?_
    exact next σ2 R2 ad9 _ ls ⟨hv2, hR2, hw2, hW, hrW, ⟨_, hat1⟩, ⟨_, hat2⟩, hS.forget, hhz⟩ (by rw [hAE 0 0 (by decide) (fun z => absurd z (by decide))]; exact lv_sub hl [2, 3, 4, 5, 6, 7] rfl)
end CS
