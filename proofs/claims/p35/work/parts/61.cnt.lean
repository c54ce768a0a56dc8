/-! bits in a long -/
theorem lN_bv (n : Nat) : (lN n).toBitVec = BitVec.ofNat 64 n := rfl
theorem lN_and (a b : Nat) : lN a &&& lN b = lN (a &&& b) := by
  apply Int64.toBitVec_inj.mp
  rw [Int64.toBitVec_and, lN_bv, lN_bv, lN_bv, BitVec.ofNat_and]
theorem lN_self (x : Int64) : lN x.toBitVec.toNat = x := by
  apply Int64.toBitVec_inj.mp
  rw [lN_bv, BitVec.ofNat_toNat, BitVec.setWidth_eq]
theorem nI_and127 (n : Nat) : nI n &&& nI 127 = nI (n % 128) := by
  apply Int32.toBitVec_inj.mp
  have h : ∀ m, (nI m).toBitVec = BitVec.ofNat 32 m := fun _ => rfl
  rw [Int32.toBitVec_and, h, h, h, ← BitVec.ofNat_and, show n &&& 127 = n % 128 from Nat.and_two_pow_sub_one_eq_mod n 7]
theorem lN_shr {n : Nat} (hn : n < 18446744073709551616) (k : Nat) (hk : k < 64) {w : UInt64} (hw : w = UInt64.ofNat k) : ((lN n).toUInt64 >>> w).toInt64 = lN (n / 2 ^ k) := by
  subst hw
  apply Int64.toBitVec_inj.mp
  apply BitVec.eq_of_toNat_eq
  show ((lN n).toUInt64 >>> UInt64.ofNat k).toNat = (BitVec.ofNat 64 (n / 2 ^ k)).toNat
  have e1 : (lN n).toUInt64.toNat = n := by show (BitVec.ofNat 64 n).toNat = n; rw [BitVec.toNat_ofNat]; exact Nat.mod_eq_of_lt hn
  have e2 : (UInt64.ofNat k).toNat = k := by rw [UInt64.toNat_ofNat']; exact Nat.mod_eq_of_lt (by omega)
  rw [UInt64.toNat_shiftRight, e1, e2, Nat.mod_eq_of_lt hk, Nat.shiftRight_eq_div_pow, BitVec.toNat_ofNat]
  exact (Nat.mod_eq_of_lt (Nat.lt_of_le_of_lt (Nat.div_le_self _ _) hn)).symm
theorem lN_sh (k : Nat) (hk : k = 1 ∨ k = 2 ∨ k = 4 ∨ k = 8 ∨ k = 16 ∨ k = 32) {n : Nat} (hn : n < 18446744073709551616) : ((lN n).toUInt64 >>> ((nI k).toInt64.toUInt64 &&& Int64.toUInt64 63)).toInt64 = lN (n / 2 ^ k) := by
  refine lN_shr hn k (by omega) ?_
  rcases hk with rfl | rfl | rfl | rfl | rfl | rfl <;> decide +kernel
theorem q_sub64 {w : Nat} (h1 : 64 ≤ w) : nI w - nI 64 = nI (w - 64) := by
  have : nI w = nI (w - 64) + nI 64 := by show Int32.ofNat w = Int32.ofNat (w - 64) + Int32.ofNat 64; rw [← Int32.ofNat_add]; congr 1; omega
  rw [this, Int32.add_sub_cancel]
theorem bbd_lt16 {f : Nat → Nat} (hf : ∀ b, b < 256 → f b ≤ 8) : ∀ n x, 16 * bbd f n x < 256 ^ n
  | 0, _ => by simp [bbd]
  | n + 1, x => by
    have h1 := bbd_lt16 hf n (x / 256)
    have h2 := hf (x % 256) (Nat.mod_lt _ (by decide))
    show 16 * (f (x % 256) + 256 * bbd f n (x / 256)) < 256 ^ (n + 1)
    rw [Nat.pow_succ]
    omega
theorem bb_lt2 {x : Nat} (h : x < 18446744073709551616) : bbA3 x < 18446744073709551616 ∧ bbA4 x < 18446744073709551616 ∧ bbA5 x < 18446744073709551616 := by
  have h1 := bbd_lt16 bb3_le 8 x
  rw [bb_256, ← bb_A3 h] at h1
  unfold bbA5 bbA4
  omega
theorem qWF.lwd {σ : QSt} (h : qWF σ) {i k : Nat} (hi : i < σ 0 0) (hk : k < 3) : σ (80 + k) i < 100 := by
  have g := h.lin hi
  obtain rfl | rfl | rfl : k = 0 ∨ k = 1 ∨ k = 2 := by omega
  · exact g.2.2.1
  · exact g.2.2.2.1
  · exact g.2.2.2.2.1
/-- words of a pattern's lines, so far -/
def qVF (σ : QSt) (p0 k i : Nat) : Nat → Nat := fun x => qB (0 < qsum (fun l => qB (σ 68 l = p0 ∧ σ (80 + k) l = x)) i)
theorem qVF_0 {σ : QSt} {p0 k w : Nat} (_ : w < 2) : lN 0 = qbits (qVF σ p0 k 0) 64 w := by
  unfold qbits
  rw [qbv_zero _ _ _ (fun b _ z => absurd ((qB_f (p := 0 < qsum (fun l => qB (σ 68 l = p0 ∧ σ (80 + k) l = 64 * w + b)) 0) (Nat.lt_irrefl 0)).symm.trans z) (by decide))]
  rfl
theorem qVF_no {σ : QSt} {p0 k i : Nat} (h : σ 68 i ≠ p0) : qVF σ p0 k (i + 1) = qVF σ p0 k i := by
  funext x
  unfold qVF
  rw [qsum, qB_f (fun z => h z.1 : ¬ (σ 68 i = p0 ∧ σ (80 + k) i = x)), Nat.add_zero]
theorem qVF_yes {σ : QSt} {p0 k i : Nat} (h : σ 68 i = p0) (x : Nat) : qVF σ p0 k (i + 1) x = 1 ↔ (x = σ (80 + k) i ∨ qVF σ p0 k i x = 1) := by
  unfold qVF
  rw [qsum]
  by_cases c : x = σ (80 + k) i
  · rw [qB_t (show σ 68 i = p0 ∧ σ (80 + k) i = x from ⟨h, c.symm⟩), qB_t (Nat.succ_pos _)]
    exact ⟨fun _ => Or.inl c, fun _ => rfl⟩
  · rw [qB_f (fun z => c z.2.symm : ¬ (σ 68 i = p0 ∧ σ (80 + k) i = x)), Nat.add_zero]
    exact ⟨Or.inr, fun z => z.resolve_left c⟩
theorem qVF_bits {σ : QSt} {p0 k i w : Nat} (h : σ 68 i = p0) : qbits (fun j => if j = σ (80 + k) i then 1 else qVF σ p0 k i j) 64 w = qbits (qVF σ p0 k (i + 1)) 64 w := by
  refine qbits_congr (fun b _ => ?_)
  rw [qVF_yes h]
  by_cases c : 64 * w + b = σ (80 + k) i
  · rw [if_pos c]; exact ⟨fun _ => Or.inl c, fun _ => rfl⟩
  · rw [if_neg c]; exact ⟨Or.inr, fun z => z.resolve_left c⟩
theorem qVF_oth {σ : QSt} {p0 k i w : Nat} (h : σ 68 i = p0) (hw : ∀ b, b < 64 → 64 * w + b ≠ σ (80 + k) i) : qbits (qVF σ p0 k (i + 1)) 64 w = qbits (qVF σ p0 k i) 64 w := by
  refine qbits_congr (fun b hb => ?_)
  rw [qVF_yes h]
  exact ⟨fun z => z.resolve_left (hw b hb), Or.inr⟩
theorem qVF_lo {σ : QSt} {p0 k i : Nat} (h : σ 68 i = p0) (c : σ (80 + k) i < 64) : qbits (qVF σ p0 k i) 64 0 ||| ((1 : Int64) <<< ((nI (σ (80 + k) i)).toInt64 &&& 63)) = qbits (qVF σ p0 k (i + 1)) 64 0 ∧ qbits (qVF σ p0 k (i + 1)) 64 1 = qbits (qVF σ p0 k i) 64 1 := by
  refine ⟨?_, qVF_oth h (fun b _ => by omega)⟩
  have g := q_setbit (F := qVF σ p0 k i) (k := 64) (l := σ (80 + k) i) (by decide) (by decide)
  rw [Nat.div_eq_of_lt c, Nat.mod_eq_of_lt c] at g
  rw [g, qVF_bits h]
theorem qVF_hi {σ : QSt} {p0 k i : Nat} (h : σ 68 i = p0) (c : 64 ≤ σ (80 + k) i) (d : σ (80 + k) i < 128) : qbits (qVF σ p0 k i) 64 1 ||| ((1 : Int64) <<< ((nI (σ (80 + k) i - 64)).toInt64 &&& 63)) = qbits (qVF σ p0 k (i + 1)) 64 1 ∧ qbits (qVF σ p0 k (i + 1)) 64 0 = qbits (qVF σ p0 k i) 64 0 := by
  refine ⟨?_, qVF_oth h (fun b _ => by omega)⟩
  have g := q_setbit (F := qVF σ p0 k i) (k := 64) (l := σ (80 + k) i) (by decide) (by decide)
  rw [show σ (80 + k) i / 64 = 1 by omega, show σ (80 + k) i % 64 = σ (80 + k) i - 64 by omega] at g
  rw [g, qVF_bits h]
theorem qsum_0 {f : Nat → Nat} : ∀ n, (∀ i, i < n → f i = 0) → qsum f n = 0
  | 0, _ => rfl
  | n + 1, h => by rw [qsum, qsum_0 n (fun i hi => h i (by omega)), h n (by omega)]
theorem qVF_sum {σ : QSt} {p0 k : Nat} (hF : qWF σ) (hk : k < 3) : bbA6 (qbits (qVF σ p0 k (σ 0 0)) 64 0).toBitVec.toNat % 128 + bbA6 (qbits (qVF σ p0 k (σ 0 0)) 64 1).toBitVec.toNat % 128 = qsum (qVF σ p0 k (σ 0 0)) 100 := by
  rw [bb_marks, bb_marks]
  have e : ∀ x, qB (qVF σ p0 k (σ 0 0) x = 1) = qVF σ p0 k (σ 0 0) x := fun x => by
    by_cases c : qVF σ p0 k (σ 0 0) x = 1
    · rw [qB_t c, c]
    · have : qVF σ p0 k (σ 0 0) x ≤ 1 := qB_le
      rw [qB_f c]; omega
  have s := qsum_split (qVF σ p0 k (σ 0 0)) 64 64
  have s2 := qsum_split (qVF σ p0 k (σ 0 0)) 100 28
  have z : qsum (fun j => qVF σ p0 k (σ 0 0) (100 + j)) 28 = 0 := qsum_0 28 (fun j _ => by
    show qB (0 < _) = 0
    rw [qsum_0 (σ 0 0) (fun l hl => qB_f (fun y => by have := hF.lwd hl hk; omega))]
    exact qB_f (by decide))
  rw [z] at s2
  replace s2 := s2.trans (Nat.add_zero _)
  rw [← s2, show 100 + 28 = 64 + 64 from rfl, s]
  congr 1
  · exact qsum_congr _ (fun i _ => by rw [Nat.mul_zero, Nat.zero_add, e])
  · exact qsum_congr _ (fun i _ => by rw [Nat.mul_one, e])
set_option maxHeartbeats 4000000 in
set_option maxRecDepth 100000 in
theorem m_bitCount (l : Launch) (x : Nat) (hx9 : x < 18446744073709551616) : Met l yJ13_bitCount_95d88 wsJ13_bitCount_95d88 ({ frames := 0, cells := 0, slots := 0, locals := 0 } : Room) (qU [.long (lN x)]) (qPV (some (.int (nI (bbA6 x % 128))))) 0 0 (fun _ => False) := by
  refine Met.ofW (cc := cJ13_bitCount_95d88) (maxL := 2) (ret := (some .int)) (by decide) rfl ?_
  intro p e s m args below meth c s₁ B hml hv
  obtain ⟨rfl, -⟩ := hv
  have hx := B.exec
  have hb := B.bytes
  have hr := B.returns
  have hts := atoms_spec (ws := wsJ13_bitCount_95d88) B.pre
  have hown : s.vm.findClass RJ13 = some m.cls := findClass_of_methodNamed B.named
  have hlocks := B.notSynchronized
  obtain ⟨b1, b2, b3⟩ := bb_lt hx9
  obtain ⟨b4, b5, b6⟩ := bb_lt2 hx9
  have hS : va_S (fun _ => False) s.heap s.heap [] := va_S.rf
  have hl := lv_entry ([.long (lN x)]) (n := 2) (Nat.le_of_ble_eq_true rfl)
  rw [lg_entry_eq]
  generalize (lg_sl ([.long (lN x)]) ++ List.replicate (2 - (lg_sl ([.long (lN x)])).length) Slot.unset).toArray = ls at hl ⊢
  have hl : lv_has ls 2 [(0, .long (lN x))] := hl
  refine lv_lload_n hx hb dJ13_bitCount_95d88_0 rfl (lv_at hl 0 rfl) ?_
  refine lv_lload_n hx hb dJ13_bitCount_95d88_1 rfl (lv_at hl 0 rfl) ?_
  refine lv_iconst (v := nI 1) hx hb dJ13_bitCount_95d88_2 (by decide) ?_
  refine lv_lushr hx hb dJ13_bitCount_95d88_3 (lN_sh 1 (by decide) hx9) ?_
  refine q_tl (y := lN (x / 2)) rfl ?_
  refine lv_ldc2 (v := lN 6148914691236517205) hx hb hown (hts (.constantLong RJ13 314 (6148914691236517205)) (List.mem_of_getElem? (i := 1) (by decide +kernel))) dJ13_bitCount_95d88_4 ?_
  refine lv_land hx hb dJ13_bitCount_95d88_7 ?_
  refine q_tl (lN_and (x / 2) 6148914691236517205) ?_
  refine lv_lsub hx hb dJ13_bitCount_95d88_8 ?_
  refine q_tl (lN_sub (bb_A1 hx9).1) ?_
  refine q_tl (y := lN (bbA1 x)) rfl ?_
  refine lv_lstore_n (lv' := [(0, .long (lN (bbA1 x)))]) hx hb dJ13_bitCount_95d88_9 rfl hl (by decide) rfl (fun ls hl => ?_)
  refine lv_lload_n hx hb dJ13_bitCount_95d88_10 rfl (lv_at hl 0 rfl) ?_
  refine lv_ldc2 (v := lN 3689348814741910323) hx hb hown (hts (.constantLong RJ13 316 (3689348814741910323)) (List.mem_of_getElem? (i := 2) (by decide +kernel))) dJ13_bitCount_95d88_11 ?_
  refine lv_land hx hb dJ13_bitCount_95d88_14 ?_
  refine q_tl (lN_and (bbA1 x) 3689348814741910323) ?_
  refine lv_lload_n hx hb dJ13_bitCount_95d88_15 rfl (lv_at hl 0 rfl) ?_
  refine lv_iconst (v := nI 2) hx hb dJ13_bitCount_95d88_16 (by decide) ?_
  refine lv_lushr hx hb dJ13_bitCount_95d88_17 (lN_sh 2 (by decide) b1) ?_
  refine q_tl (y := lN (bbA1 x / 4)) rfl ?_
  refine lv_ldc2 (v := lN 3689348814741910323) hx hb hown (hts (.constantLong RJ13 316 (3689348814741910323)) (List.mem_of_getElem? (i := 2) (by decide +kernel))) dJ13_bitCount_95d88_18 ?_
  refine lv_land hx hb dJ13_bitCount_95d88_21 ?_
  refine q_tl (lN_and (bbA1 x / 4) 3689348814741910323) ?_
  refine lv_ladd hx hb dJ13_bitCount_95d88_22 ?_
  refine q_tl (lN_add ((bbA1 x) &&& 3689348814741910323) ((bbA1 x / 4) &&& 3689348814741910323)) ?_
  refine q_tl (y := lN (bbA2 x)) rfl ?_
  refine lv_lstore_n (lv' := [(0, .long (lN (bbA2 x)))]) hx hb dJ13_bitCount_95d88_23 rfl hl (by decide) rfl (fun ls hl => ?_)
  refine lv_lload_n hx hb dJ13_bitCount_95d88_24 rfl (lv_at hl 0 rfl) ?_
  refine lv_lload_n hx hb dJ13_bitCount_95d88_25 rfl (lv_at hl 0 rfl) ?_
  refine lv_iconst (v := nI 4) hx hb dJ13_bitCount_95d88_26 (by decide) ?_
  refine lv_lushr hx hb dJ13_bitCount_95d88_27 (lN_sh 4 (by decide) (Nat.lt_trans b2 (by decide))) ?_
  refine q_tl (y := lN (bbA2 x / 16)) rfl ?_
  refine lv_ladd hx hb dJ13_bitCount_95d88_28 ?_
  refine q_tl (lN_add (bbA2 x) (bbA2 x / 16)) ?_
  refine lv_ldc2 (v := lN 1085102592571150095) hx hb hown (hts (.constantLong RJ13 318 (1085102592571150095)) (List.mem_of_getElem? (i := 3) (by decide +kernel))) dJ13_bitCount_95d88_29 ?_
  refine lv_land hx hb dJ13_bitCount_95d88_32 ?_
  refine q_tl (lN_and (bbA2 x + (bbA2 x / 16)) 1085102592571150095) ?_
  refine q_tl (y := lN (bbA3 x)) rfl ?_
  refine lv_lstore_n (lv' := [(0, .long (lN (bbA3 x)))]) hx hb dJ13_bitCount_95d88_33 rfl hl (by decide) rfl (fun ls hl => ?_)
  refine lv_lload_n hx hb dJ13_bitCount_95d88_34 rfl (lv_at hl 0 rfl) ?_
  refine lv_lload_n hx hb dJ13_bitCount_95d88_35 rfl (lv_at hl 0 rfl) ?_
  refine lv_bipush (v := nI 8) hx hb dJ13_bitCount_95d88_36 (by decide) ?_
  refine lv_lushr hx hb dJ13_bitCount_95d88_38 (lN_sh 8 (by decide) b4) ?_
  refine q_tl (y := lN (bbA3 x / 256)) rfl ?_
  refine lv_ladd hx hb dJ13_bitCount_95d88_39 ?_
  refine q_tl (lN_add (bbA3 x) (bbA3 x / 256)) ?_
  refine q_tl (y := lN (bbA4 x)) rfl ?_
  refine lv_lstore_n (lv' := [(0, .long (lN (bbA4 x)))]) hx hb dJ13_bitCount_95d88_40 rfl hl (by decide) rfl (fun ls hl => ?_)
  refine lv_lload_n hx hb dJ13_bitCount_95d88_41 rfl (lv_at hl 0 rfl) ?_
  refine lv_lload_n hx hb dJ13_bitCount_95d88_42 rfl (lv_at hl 0 rfl) ?_
  refine lv_bipush (v := nI 16) hx hb dJ13_bitCount_95d88_43 (by decide) ?_
  refine lv_lushr hx hb dJ13_bitCount_95d88_45 (lN_sh 16 (by decide) b5) ?_
  refine q_tl (y := lN (bbA4 x / 65536)) rfl ?_
  refine lv_ladd hx hb dJ13_bitCount_95d88_46 ?_
  refine q_tl (lN_add (bbA4 x) (bbA4 x / 65536)) ?_
  refine q_tl (y := lN (bbA5 x)) rfl ?_
  refine lv_lstore_n (lv' := [(0, .long (lN (bbA5 x)))]) hx hb dJ13_bitCount_95d88_47 rfl hl (by decide) rfl (fun ls hl => ?_)
  refine lv_lload_n hx hb dJ13_bitCount_95d88_48 rfl (lv_at hl 0 rfl) ?_
  refine lv_lload_n hx hb dJ13_bitCount_95d88_49 rfl (lv_at hl 0 rfl) ?_
  refine lv_bipush (v := nI 32) hx hb dJ13_bitCount_95d88_50 (by decide) ?_
  refine lv_lushr hx hb dJ13_bitCount_95d88_52 (lN_sh 32 (by decide) b6) ?_
  refine q_tl (y := lN (bbA5 x / 4294967296)) rfl ?_
  refine lv_ladd hx hb dJ13_bitCount_95d88_53 ?_
  refine q_tl (lN_add (bbA5 x) (bbA5 x / 4294967296)) ?_
  refine q_tl (y := lN (bbA6 x)) rfl ?_
  refine lv_lstore_n (lv' := [(0, .long (lN (bbA6 x)))]) hx hb dJ13_bitCount_95d88_54 rfl hl (by decide) rfl (fun ls hl => ?_)
  refine lv_lload_n hx hb dJ13_bitCount_95d88_55 rfl (lv_at hl 0 rfl) ?_
  refine lv_l2i hx hb dJ13_bitCount_95d88_56 (lN_i (bbA6 x)) ?_
  refine lv_bipush (v := nI 127) hx hb dJ13_bitCount_95d88_57 (by decide) ?_
  refine lv_iand hx hb dJ13_bitCount_95d88_59 ?_
  refine q_ti (nI_and127 (bbA6 x)) ?_
  exact W.iret hx hb hr (fun t ht _ => ⟨rfl, ht⟩) hS.2.2 dJ13_bitCount_95d88_60
set_option maxHeartbeats 4000000 in
set_option maxRecDepth 100000 in
theorem m_values (l : Launch) (G : QG) (es : Nat) (A : Nat → Prop) (σ ad : QSt) (hF : qWF σ) (p0 k : Nat) (hp : p0 < σ 0 1) (hm : σ 97 p0 = 0) (hk : k < 3) : Met l yX7_values wsX7_values ({ frames := 4, cells := 0, slots := 0, locals := 86 } : Room) (qR G es A σ ad [.ref (ad 0 0), .int (nI p0), .int (nI k)]) (qPV (some (.int (nI (qsum (qVF σ p0 k (σ 0 0)) 100))))) 0 0 (fun _ => False) := by
  refine Met.ofW (cc := cX7_values) (maxL := 11) (ret := (some .int)) (by decide) rfl ?_
  intro p e s m args below meth c s₁ B hml hv
  obtain ⟨rfl, hC, hW⟩ := hv
  have hx := B.exec
  have hb := B.bytes
  have hr := B.returns
  have hts := atoms_spec (ws := wsX7_values) B.pre
  have hown : s.vm.findClass RX7 = some m.cls := findClass_of_methodNamed B.named
  have hlocks := B.notSynchronized
  have hB := hF.1
  have hn := hF.n
  have hS : va_S (fun _ => False) s.heap s.heap [] := va_S.rf
  have hl := lv_entry ([.ref (ad 0 0), .int (nI p0), .int (nI k)]) (n := 11) (Nat.le_of_ble_eq_true rfl)
  rw [lg_entry_eq]
  generalize (lg_sl ([.ref (ad 0 0), .int (nI p0), .int (nI k)]) ++ List.replicate (11 - (lg_sl ([.ref (ad 0 0), .int (nI p0), .int (nI k)])).length) Slot.unset).toArray = ls at hl ⊢
  have hl : lv_has ls 11 [(0, .ref (ad 0 0)), (1, .int (nI p0)), (2, .int (nI k))] := hl
  have iRX7 : ∀ w ∈ wsX70, w ∈ wsX7_values := by decide +kernel
  have iRX3 : ∀ w ∈ wsX30, w ∈ wsX7_values := by decide +kernel
  have iRX4 : ∀ w ∈ wsX40, w ∈ wsX7_values := by decide +kernel
  refine lv_aload_n hx hb dX7_values_0 rfl (lv_at hl 0 rfl) ?_
  refine lv_iload_n hx hb dX7_values_1 rfl (lv_at hl 1 rfl) ?_
  refine q_v (va_runV (As := [.int (nI p0)]) (rest := []) ⟨hx, hb, hml, hown, hts⟩ (m_patternNumbered l G es A σ ad hF p0 hp hm) (cwV 1 hts gX7_values_X7_patternNumbered rfl rfl rfl (by decide +kernel) ⟨Nat.le_of_ble_eq_true rfl, Nat.le_of_ble_eq_true rfl⟩) ⟨qR.blind, qrecv hC (hW.to qLV0) rfl, qR.pre hC hW⟩ rfl rfl hl.1 rfl (lv_room (Nat.le_of_ble_eq_true rfl)) dX7_values_2 ⟨Nat.le_of_ble_eq_true rfl, Nat.le_of_ble_eq_true rfl⟩) hS (fun _ h => h.elim) (fun locs hS => ?_)
  refine lv_astore_n (lv' := [(3, .ref (ad 6 p0)), (0, .ref (ad 0 0)), (1, .int (nI p0)), (2, .int (nI k))]) hx hb dX7_values_5 rfl hl (by decide) rfl (fun ls hl => ?_)
  refine lv_iload_n hx hb dX7_values_6 rfl (lv_at hl 3 rfl) ?_
  refine q_n (va_runS (As := [.int (nI k)]) (rest := []) ⟨hx, hb, hml, hown, hts⟩ (m_checkPlace l k hk) (va_cwS 1 hts gX7_values_X7_checkPlace rfl rfl rfl (by decide +kernel) ⟨Nat.le_of_ble_eq_true rfl, Nat.le_of_ble_eq_true rfl⟩) ⟨qU.blind, qU.pre⟩ rfl rfl hl.1 rfl (lv_room (Nat.le_of_ble_eq_true rfl)) dX7_values_7 ⟨Nat.le_of_ble_eq_true rfl, Nat.le_of_ble_eq_true rfl⟩) hS (fun _ h => h.elim) (fun locs hS => ?_)
  refine lv_lconst (v := lN 0) hx hb dX7_values_10 (by decide) ?_
  refine lv_lstore (lv' := [(4, .long (lN 0)), (3, .ref (ad 6 p0)), (0, .ref (ad 0 0)), (1, .int (nI p0)), (2, .int (nI k))]) hx hb dX7_values_11 hl (by decide) rfl (fun ls hl => ?_)
  refine lv_lconst (v := lN 0) hx hb dX7_values_13 (by decide) ?_
  refine lv_lstore (lv' := [(6, .long (lN 0)), (4, .long (lN 0)), (3, .ref (ad 6 p0)), (0, .ref (ad 0 0)), (1, .int (nI p0)), (2, .int (nI k))]) hx hb dX7_values_14 hl (by decide) rfl (fun ls hl => ?_)
  refine lv_iconst (v := nI 0) hx hb dX7_values_16 (by decide) ?_
  refine lv_istore (lv' := [(8, .int (nI 0)), (6, .long (lN 0)), (4, .long (lN 0)), (3, .ref (ad 6 p0)), (0, .ref (ad 0 0)), (1, .int (nI p0)), (2, .int (nI k))]) hx hb dX7_values_17 hl (by decide) rfl (fun ls hl => ?_)
  have e0 : (lN 0) = qbits (qVF σ p0 k 0) 64 0 := qVF_0 (by decide)
  have e1 : (lN 0) = qbits (qVF σ p0 k 0) 64 1 := qVF_0 (by decide)
  have hl : lv_has ls 11 [(8, .int (nI 0)), (6, .long (qbits (qVF σ p0 k 0) 64 1)), (4, .long (qbits (qVF σ p0 k 0) 64 0)), (3, .ref (ad 6 p0)), (0, .ref (ad 0 0)), (1, .int (nI p0)), (2, .int (nI k))] := by rw [← e0, ← e1]; exact hl
  refine q_up (σ 0 0) (fun i H locs ls => H = s.heap ∧ va_S (fun _ => False) s.heap H locs ∧ lv_has ls 11 [(0, .ref (ad 0 0)), (2, .int (nI k)), (3, .ref (ad 6 p0)), (4, .long (qbits (qVF σ p0 k i) 64 0)), (6, .long (qbits (qVF σ p0 k i) 64 1)), (8, .int (nI i))]) ?_ ?_ (i0 := 0) (Nat.zero_le _) ⟨rfl, hS, lv_sub hl [4, 6, 3, 2, 1, 0] rfl⟩
  · rintro _ locs ls ⟨rfl, hS, hl⟩
    refine lv_iload hx hb dX7_values_19 (lv_at hl 5 rfl) ?_
    refine lv_aload_n hx hb dX7_values_21 rfl (lv_at hl 0 rfl) ?_
    refine q_get (C := RX7) (T := TX7) (N := 7) hx hb hts iRX7 hown hC.1 (hW.to qLV0) rfl 0 (by decide) (hts (.fieldLink RX7 10 "LogWeave" "lineList" "Ljava/util/ArrayList;") (List.mem_of_getElem? (i := 1) (by decide +kernel))) rfl (v := .ref (ad 1 0)) rfl dX7_values_22 ?_
    refine q_v (va_runV (As := []) (rest := [.int (nI (σ 0 0))]) ⟨hx, hb, hml, hown, hts⟩ (m_size l G (ad 1 0) _ _ (nI (σ 0 0))) (cwV 0 hts gX7_values_Jx4a65c_size_8abf5 rfl rfl rfl (by decide +kernel) ⟨Nat.le_of_ble_eq_true rfl, Nat.le_of_ble_eq_true rfl⟩) ⟨qO.blind, qrecv hC (hW.to (qLV1 (j := 0) (by decide))) rfl, qO.pre hC (hW.lob (by decide))⟩ rfl rfl hl.1 rfl (lv_room (Nat.le_of_ble_eq_true rfl)) dX7_values_25 ⟨Nat.le_of_ble_eq_true rfl, Nat.le_of_ble_eq_true rfl⟩) hS (fun _ h => h.elim) (fun locs hS => ?_)
    refine q_ge (tgt := 102) hx hb (q31 (hB _ _)) (q31 (hB _ _)) dX7_values_28 (by decide) (fun g1 => ?_) (fun g1 => (by omega))
    refine lv_lload hx hb dX7_values_102 (lv_at hl 3 rfl) ?_
    refine q_tl (lN_self (qbits (qVF σ p0 k (σ 0 0)) 64 0)).symm ?_
    refine q_v (va_runS (As := [.long (lN (qbits (qVF σ p0 k (σ 0 0)) 64 0).toBitVec.toNat)]) (rest := []) ⟨hx, hb, hml, hown, hts⟩ (m_bitCount l (qbits (qVF σ p0 k (σ 0 0)) 64 0).toBitVec.toNat (qbits (qVF σ p0 k (σ 0 0)) 64 0).toBitVec.isLt) (va_cwS 1 hts gX7_values_J13_bitCount_95d88 rfl rfl rfl (by decide +kernel) ⟨Nat.le_of_ble_eq_true rfl, Nat.le_of_ble_eq_true rfl⟩) ⟨qU.blind, qU.pre⟩ rfl rfl hl.1 rfl (lv_room (Nat.le_of_ble_eq_true rfl)) dX7_values_104 ⟨Nat.le_of_ble_eq_true rfl, Nat.le_of_ble_eq_true rfl⟩) hS (fun _ h => h.elim) (fun locs hS => ?_)
    refine lv_lload hx hb dX7_values_107 (lv_at hl 4 rfl) ?_
    refine q_tl (lN_self (qbits (qVF σ p0 k (σ 0 0)) 64 1)).symm ?_
    refine q_v (va_runS (As := [.long (lN (qbits (qVF σ p0 k (σ 0 0)) 64 1).toBitVec.toNat)]) (rest := [.int (nI (bbA6 (qbits (qVF σ p0 k (σ 0 0)) 64 0).toBitVec.toNat % 128))]) ⟨hx, hb, hml, hown, hts⟩ (m_bitCount l (qbits (qVF σ p0 k (σ 0 0)) 64 1).toBitVec.toNat (qbits (qVF σ p0 k (σ 0 0)) 64 1).toBitVec.isLt) (va_cwS 1 hts gX7_values_J13_bitCount_95d88 rfl rfl rfl (by decide +kernel) ⟨Nat.le_of_ble_eq_true rfl, Nat.le_of_ble_eq_true rfl⟩) ⟨qU.blind, qU.pre⟩ rfl rfl hl.1 rfl (lv_room (Nat.le_of_ble_eq_true rfl)) dX7_values_109 ⟨Nat.le_of_ble_eq_true rfl, Nat.le_of_ble_eq_true rfl⟩) hS (fun _ h => h.elim) (fun locs hS => ?_)
    refine lv_iadd hx hb dX7_values_112 ?_
    refine q_ti (nI_add (bbA6 (qbits (qVF σ p0 k (σ 0 0)) 64 0).toBitVec.toNat % 128) (bbA6 (qbits (qVF σ p0 k (σ 0 0)) 64 1).toBitVec.toNat % 128)) ?_
    exact W.iret hx hb hr (fun t ht _ => ⟨by rw [qVF_sum hF hk], ht⟩) hS.2.2 dX7_values_113
  · rintro i _ locs ls hi ⟨rfl, hS, hl⟩ ih
    refine lv_iload hx hb dX7_values_19 (lv_at hl 5 rfl) ?_
    refine lv_aload_n hx hb dX7_values_21 rfl (lv_at hl 0 rfl) ?_
    refine q_get (C := RX7) (T := TX7) (N := 7) hx hb hts iRX7 hown hC.1 (hW.to qLV0) rfl 0 (by decide) (hts (.fieldLink RX7 10 "LogWeave" "lineList" "Ljava/util/ArrayList;") (List.mem_of_getElem? (i := 1) (by decide +kernel))) rfl (v := .ref (ad 1 0)) rfl dX7_values_22 ?_
    refine q_v (va_runV (As := []) (rest := [.int (nI i)]) ⟨hx, hb, hml, hown, hts⟩ (m_size l G (ad 1 0) _ _ (nI (σ 0 0))) (cwV 0 hts gX7_values_Jx4a65c_size_8abf5 rfl rfl rfl (by decide +kernel) ⟨Nat.le_of_ble_eq_true rfl, Nat.le_of_ble_eq_true rfl⟩) ⟨qO.blind, qrecv hC (hW.to (qLV1 (j := 0) (by decide))) rfl, qO.pre hC (hW.lob (by decide))⟩ rfl rfl hl.1 rfl (lv_room (Nat.le_of_ble_eq_true rfl)) dX7_values_25 ⟨Nat.le_of_ble_eq_true rfl, Nat.le_of_ble_eq_true rfl⟩) hS (fun _ h => h.elim) (fun locs hS => ?_)
    refine q_ge (tgt := 102) hx hb (by omega) (q31 (hB _ _)) dX7_values_28 (by decide) (fun g2 => (by omega)) (fun g2 => ?_)
    refine lv_aload_n hx hb dX7_values_31 rfl (lv_at hl 0 rfl) ?_
    refine q_get (C := RX7) (T := TX7) (N := 7) hx hb hts iRX7 hown hC.1 (hW.to qLV0) rfl 0 (by decide) (hts (.fieldLink RX7 10 "LogWeave" "lineList" "Ljava/util/ArrayList;") (List.mem_of_getElem? (i := 1) (by decide +kernel))) rfl (v := .ref (ad 1 0)) rfl dX7_values_32 ?_
    refine lv_iload hx hb dX7_values_35 (lv_at hl 5 rfl) ?_
    refine q_v (va_runV (As := [.int (nI i)]) (rest := []) ⟨hx, hb, hml, hown, hts⟩ (m_get l G (ad 1 0) (ad 2 0) (σ 32 0) (σ 0 0) (fun i => if i < σ 0 0 then some (ad (4 + 2 * 0) i) else none) (.int (nI (σ 16 0))) i (ad 4 i) hi (hF.c 0) (hB _ _) (if_pos hi)) (cwV 1 hts gX7_values_Jx4a65c_get_915e3 rfl rfl rfl (by decide +kernel) ⟨Nat.le_of_ble_eq_true rfl, Nat.le_of_ble_eq_true rfl⟩) ⟨qO.blind, qrecv hC (hW.to (qLV1 (j := 0) (by decide))) rfl, qO.pre hC (hW.list hF (J := 0) (by decide) hi)⟩ rfl rfl hl.1 rfl (lv_room (Nat.le_of_ble_eq_true rfl)) dX7_values_37 ⟨Nat.le_of_ble_eq_true rfl, Nat.le_of_ble_eq_true rfl⟩) hS (fun _ h => h.elim) (fun locs hS => ?_)
    refine va_castS hx hb hown (hts (.classLink RX7 74 "LogWeave$Line") (List.mem_of_getElem? (i := 2) (by decide +kernel))) (hC.1.1 6 _ rfl).2 (qrecv hC (hW.to (qLV4 hi)) rfl) dX7_values_40 ?_
    refine lv_astore (lv' := [(9, .ref (ad 4 i)), (0, .ref (ad 0 0)), (2, .int (nI k)), (3, .ref (ad 6 p0)), (4, .long (qbits (qVF σ p0 k i) 64 0)), (6, .long (qbits (qVF σ p0 k i) 64 1)), (8, .int (nI i))]) hx hb dX7_values_43 hl (by decide) rfl (fun ls hl => ?_)
    refine lv_aload hx hb dX7_values_45 (lv_at hl 0 rfl) ?_
    refine q_getN (C := RX3) (T := TX3) (N := 8) hx hb hts iRX3 hown hC.1 (hW.to (qLV4 hi)) rfl 5 (by decide) (va_Nw.use rfl (qf_RX7_107 hC)) rfl (v := .ref (ad 6 (σ 68 i))) rfl dX7_values_47 ?_
    refine lv_aload_n hx hb dX7_values_50 rfl (lv_at hl 3 rfl) ?_
    refine q_acmp_ne (tgt := 96) hx hb dX7_values_51 (by decide) (fun c2 => ?_) (fun c2 => ?_)
    · skip
      have e9 : qVF σ p0 k (i + 1) = qVF σ p0 k i := qVF_no (fun h => c2 (by rw [h]))
      rw [← e9] at hl
      refine lv_iinc (v := nI (i + 1)) (lv' := [(8, .int (nI (i + 1))), (9, .ref (ad 4 i)), (0, .ref (ad 0 0)), (2, .int (nI k)), (3, .ref (ad 6 p0)), (4, .long (qbits (qVF σ p0 k (i + 1)) 64 0)), (6, .long (qbits (qVF σ p0 k (i + 1)) 64 1))]) hx hb dX7_values_96 hl (k := 6) rfl (nI_1 i) (by decide) rfl (fun ls hl => ?_)
      refine lv_goto (tgt := 19) hx hb dX7_values_99 (by decide) ?_
      exact ih _ locs ls ⟨rfl, hS, lv_sub hl [2, 3, 4, 5, 6, 0] rfl⟩
    · skip
      have c5 : σ 68 i = p0 := (hW.inj (qLV6 (hF.pat hi)) (qLV6 hp)).mp c2
      have h9 := hF.lwd hi hk
      refine lv_aload hx hb dX7_values_54 (lv_at hl 0 rfl) ?_
      refine q_getN (C := RX3) (T := TX3) (N := 8) hx hb hts iRX3 hown hC.1 (hW.to (qLV4 hi)) rfl 2 (by decide) (va_Nw.use rfl (qf_RX7_145 hC)) rfl (v := .ref (ad 5 i)) rfl dX7_values_56 ?_
      refine lv_iload_n hx hb dX7_values_59 rfl (lv_at hl 2 rfl) ?_
      refine q_v (va_runVN (C := RX6) (As := [.int (nI k)]) (rest := []) ⟨hx, hb, hml, hown, hts⟩ (m_at l G (ad 5 i) (fun k => nI (σ (80 + k) i)) k hk) ⟨va_cnB 1 hts gX7_values_X6_at_n142 rfl rfl rfl (qm_RX7_142 hC) (hts (.initialized RX6) (List.mem_of_getElem? (i := 44) (by decide +kernel))) (by decide +kernel) ⟨Nat.le_of_ble_eq_true rfl, Nat.le_of_ble_eq_true rfl⟩, (hts (.instanceMethod yX6_at) (List.mem_of_getElem? (i := 43) (by decide +kernel))), (hts (.selects RX6 yX6_at yX6_at) (List.mem_of_getElem? (i := 45) (by decide +kernel)))⟩ ⟨qO.blind, qrecv hC (hW.to (qLV5 hi)) rfl, qO.pre hC (va_P1 (hW.to (qLV5 hi)))⟩ rfl rfl hl.1 rfl (lv_room (Nat.le_of_ble_eq_true rfl)) dX7_values_60 ⟨Nat.le_of_ble_eq_true rfl, Nat.le_of_ble_eq_true rfl⟩) hS (fun _ h => h.elim) (fun locs hS => ?_)
      refine lv_istore (lv' := [(10, .int (nI (σ (80 + k) i))), (9, .ref (ad 4 i)), (0, .ref (ad 0 0)), (2, .int (nI k)), (3, .ref (ad 6 p0)), (4, .long (qbits (qVF σ p0 k i) 64 0)), (6, .long (qbits (qVF σ p0 k i) 64 1)), (8, .int (nI i))]) hx hb dX7_values_63 hl (by decide) rfl (fun ls hl => ?_)
      refine lv_iload hx hb dX7_values_65 (lv_at hl 0 rfl) ?_
      refine lv_bipush (v := nI 64) hx hb dX7_values_67 (by decide) ?_
      refine q_ge (tgt := 84) hx hb (by omega) (by decide) dX7_values_69 (by decide) (fun c6 => ?_) (fun c6 => ?_)
      · skip
        refine lv_lload hx hb dX7_values_84 (lv_at hl 6 rfl) ?_
        refine lv_lconst (v := 1) hx hb dX7_values_86 (by decide) ?_
        refine lv_iload hx hb dX7_values_87 (lv_at hl 0 rfl) ?_
        refine lv_bipush (v := nI 64) hx hb dX7_values_89 (by decide) ?_
        refine lv_isub hx hb dX7_values_91 ?_
        refine q_ti (q_sub64 c6) ?_
        refine lv_lshl hx hb dX7_values_92 rfl ?_
        refine lv_lor hx hb dX7_values_93 ?_
        refine q_tl (qVF_hi c5 c6 (by omega)).1 ?_
        refine lv_lstore (lv' := [(6, .long (qbits (qVF σ p0 k (i + 1)) 64 1)), (10, .int (nI (σ (80 + k) i))), (9, .ref (ad 4 i)), (0, .ref (ad 0 0)), (2, .int (nI k)), (3, .ref (ad 6 p0)), (4, .long (qbits (qVF σ p0 k i) 64 0)), (8, .int (nI i))]) hx hb dX7_values_94 hl (by decide) rfl (fun ls hl => ?_)
        rw [← (qVF_hi (σ := σ) (i := i) c5 c6 (by omega)).2] at hl
        refine lv_iinc (v := nI (i + 1)) (lv' := [(8, .int (nI (i + 1))), (6, .long (qbits (qVF σ p0 k (i + 1)) 64 1)), (10, .int (nI (σ (80 + k) i))), (9, .ref (ad 4 i)), (0, .ref (ad 0 0)), (2, .int (nI k)), (3, .ref (ad 6 p0)), (4, .long (qbits (qVF σ p0 k (i + 1)) 64 0))]) hx hb dX7_values_96 hl (k := 7) rfl (nI_1 i) (by decide) rfl (fun ls hl => ?_)
        refine lv_goto (tgt := 19) hx hb dX7_values_99 (by decide) ?_
        exact ih _ locs ls ⟨rfl, hS, lv_sub hl [4, 5, 6, 7, 1, 0] rfl⟩
      · skip
        refine lv_lload hx hb dX7_values_72 (lv_at hl 5 rfl) ?_
        refine lv_lconst (v := 1) hx hb dX7_values_74 (by decide) ?_
        refine lv_iload hx hb dX7_values_75 (lv_at hl 0 rfl) ?_
        refine lv_lshl hx hb dX7_values_77 rfl ?_
        refine lv_lor hx hb dX7_values_78 ?_
        refine q_tl (qVF_lo c5 c6).1 ?_
        refine lv_lstore (lv' := [(4, .long (qbits (qVF σ p0 k (i + 1)) 64 0)), (10, .int (nI (σ (80 + k) i))), (9, .ref (ad 4 i)), (0, .ref (ad 0 0)), (2, .int (nI k)), (3, .ref (ad 6 p0)), (6, .long (qbits (qVF σ p0 k i) 64 1)), (8, .int (nI i))]) hx hb dX7_values_79 hl (by decide) rfl (fun ls hl => ?_)
        refine lv_goto (tgt := 96) hx hb dX7_values_81 (by decide) ?_
        rw [← (qVF_lo (σ := σ) (i := i) c5 c6).2] at hl
        refine lv_iinc (v := nI (i + 1)) (lv' := [(8, .int (nI (i + 1))), (4, .long (qbits (qVF σ p0 k (i + 1)) 64 0)), (10, .int (nI (σ (80 + k) i))), (9, .ref (ad 4 i)), (0, .ref (ad 0 0)), (2, .int (nI k)), (3, .ref (ad 6 p0)), (6, .long (qbits (qVF σ p0 k (i + 1)) 64 1))]) hx hb dX7_values_96 hl (k := 7) rfl (nI_1 i) (by decide) rfl (fun ls hl => ?_)
        refine lv_goto (tgt := 19) hx hb dX7_values_99 (by decide) ?_
        exact ih _ locs ls ⟨rfl, hS, lv_sub hl [4, 5, 6, 1, 7, 0] rfl⟩
set_option maxHeartbeats 4000000 in
set_option maxRecDepth 100000 in
theorem m_droppedShare (l : Launch) (G : QG) (es : Nat) (A : Nat → Prop) (σ ad : QSt) (hF : qWF σ) (h0 : 0 < σ 0 0) : Met l yX7_droppedShare wsX7_droppedShare ({ frames := 3, cells := 0, slots := 0, locals := 64 } : Room) (qR G es A σ ad [.ref (ad 0 0)]) (qPV (some (.float (FP.fdiv (FP.i2f (nI (qsum (fun l => qB (σ 69 l = 100)) (σ 0 0)))) (FP.i2f (nI (σ 0 0))))))) 0 0 (fun _ => False) := by
  refine Met.ofW (cc := cX7_droppedShare) (maxL := 4) (ret := (some .float)) (by decide) rfl ?_
  intro p e s m args below meth c s₁ B hml hv
  obtain ⟨rfl, hC, hW⟩ := hv
  have hx := B.exec
  have hb := B.bytes
  have hr := B.returns
  have hts := atoms_spec (ws := wsX7_droppedShare) B.pre
  have hown : s.vm.findClass RX7 = some m.cls := findClass_of_methodNamed B.named
  have hlocks := B.notSynchronized
  have hB := hF.1
  have hn := hF.n
  have hS : va_S (fun _ => False) s.heap s.heap [] := va_S.rf
  have hl := lv_entry ([.ref (ad 0 0)]) (n := 4) (Nat.le_of_ble_eq_true rfl)
  rw [lg_entry_eq]
  generalize (lg_sl ([.ref (ad 0 0)]) ++ List.replicate (4 - (lg_sl ([.ref (ad 0 0)])).length) Slot.unset).toArray = ls at hl ⊢
  have hl : lv_has ls 4 [(0, .ref (ad 0 0))] := hl
  have iRX7 : ∀ w ∈ wsX70, w ∈ wsX7_droppedShare := by decide +kernel
  have iRX3 : ∀ w ∈ wsX30, w ∈ wsX7_droppedShare := by decide +kernel
  refine lv_aload_n hx hb dX7_droppedShare_0 rfl (lv_at hl 0 rfl) ?_
  refine q_get (C := RX7) (T := TX7) (N := 7) hx hb hts iRX7 hown hC.1 (hW.to qLV0) rfl 0 (by decide) (hts (.fieldLink RX7 10 "LogWeave" "lineList" "Ljava/util/ArrayList;") (List.mem_of_getElem? (i := 3) (by decide +kernel))) rfl (v := .ref (ad 1 0)) rfl dX7_droppedShare_1 ?_
  refine q_v (va_runV (As := []) (rest := []) ⟨hx, hb, hml, hown, hts⟩ (m_size l G (ad 1 0) _ _ (nI (σ 0 0))) (cwV 0 hts gX7_droppedShare_Jx4a65c_size_8abf5 rfl rfl rfl (by decide +kernel) ⟨Nat.le_of_ble_eq_true rfl, Nat.le_of_ble_eq_true rfl⟩) ⟨qO.blind, qrecv hC (hW.to (qLV1 (j := 0) (by decide))) rfl, qO.pre hC (hW.lob (by decide))⟩ rfl rfl hl.1 rfl (lv_room (Nat.le_of_ble_eq_true rfl)) dX7_droppedShare_4 ⟨Nat.le_of_ble_eq_true rfl, Nat.le_of_ble_eq_true rfl⟩) hS (fun _ h => h.elim) (fun locs hS => ?_)
  refine lv_istore_n (lv' := [(1, .int (nI (σ 0 0))), (0, .ref (ad 0 0))]) hx hb dX7_droppedShare_7 rfl hl (by decide) rfl (fun ls hl => ?_)
  refine lv_iload_n hx hb dX7_droppedShare_8 rfl (lv_at hl 0 rfl) ?_
  refine q_ne0 (tgt := 23) hx hb (q31 (hB _ _)) dX7_droppedShare_9 (by decide) (fun c0 => ?_) (fun c0 => (by omega))
  refine lv_iconst (v := nI 0) hx hb dX7_droppedShare_23 (by decide) ?_
  refine lv_istore_n (lv' := [(2, .int (nI 0)), (1, .int (nI (σ 0 0))), (0, .ref (ad 0 0))]) hx hb dX7_droppedShare_24 rfl hl (by decide) rfl (fun ls hl => ?_)
  refine lv_iconst (v := nI 0) hx hb dX7_droppedShare_25 (by decide) ?_
  refine lv_istore_n (lv' := [(3, .int (nI 0)), (2, .int (nI 0)), (1, .int (nI (σ 0 0))), (0, .ref (ad 0 0))]) hx hb dX7_droppedShare_26 rfl hl (by decide) rfl (fun ls hl => ?_)
  refine q_up (σ 0 0) (fun i H locs ls => H = s.heap ∧ va_S (fun _ => False) s.heap H locs ∧ ∃ (v : Nat), (v = qsum (fun l => qB (σ 69 l = 100)) i) ∧ lv_has ls 4 [(0, .ref (ad 0 0)), (1, .int (nI (σ 0 0))), (2, .int (nI v)), (3, .int (nI i))]) ?_ ?_ (i0 := 0) (Nat.zero_le _) ⟨rfl, hS, 0, rfl, lv_sub hl [3, 2, 1, 0] rfl⟩
  · rintro _ locs ls ⟨rfl, hS, v, e_v, hl⟩
    refine lv_iload_n hx hb dX7_droppedShare_27 rfl (lv_at hl 3 rfl) ?_
    refine lv_iload_n hx hb dX7_droppedShare_28 rfl (lv_at hl 1 rfl) ?_
    refine q_ge (tgt := 60) hx hb (q31 (hB _ _)) (q31 (hB _ _)) dX7_droppedShare_29 (by decide) (fun g1 => ?_) (fun g1 => (by omega))
    refine lv_iload_n hx hb dX7_droppedShare_60 rfl (lv_at hl 2 rfl) ?_
    refine lv_i2f hx hb dX7_droppedShare_61 ?_
    refine lv_iload_n hx hb dX7_droppedShare_62 rfl (lv_at hl 1 rfl) ?_
    refine lv_i2f hx hb dX7_droppedShare_63 ?_
    refine lv_fdiv hx hb dX7_droppedShare_64 (rfl_fdiv _ (nI_ne0 (by omega) (by omega))) ?_
    exact W.fret hx hb hr (fun t ht _ => ⟨by rw [e_v], ht⟩) hS.2.2 dX7_droppedShare_65
  · rintro i _ locs ls hi ⟨rfl, hS, v, e_v, hl⟩ ih
    refine lv_iload_n hx hb dX7_droppedShare_27 rfl (lv_at hl 3 rfl) ?_
    refine lv_iload_n hx hb dX7_droppedShare_28 rfl (lv_at hl 1 rfl) ?_
    refine q_ge (tgt := 60) hx hb (by omega) (q31 (hB _ _)) dX7_droppedShare_29 (by decide) (fun g2 => (by omega)) (fun g2 => ?_)
    refine lv_aload_n hx hb dX7_droppedShare_32 rfl (lv_at hl 0 rfl) ?_
    refine q_get (C := RX7) (T := TX7) (N := 7) hx hb hts iRX7 hown hC.1 (hW.to qLV0) rfl 0 (by decide) (hts (.fieldLink RX7 10 "LogWeave" "lineList" "Ljava/util/ArrayList;") (List.mem_of_getElem? (i := 3) (by decide +kernel))) rfl (v := .ref (ad 1 0)) rfl dX7_droppedShare_33 ?_
    refine lv_iload_n hx hb dX7_droppedShare_36 rfl (lv_at hl 3 rfl) ?_
    refine q_v (va_runV (As := [.int (nI i)]) (rest := []) ⟨hx, hb, hml, hown, hts⟩ (m_get l G (ad 1 0) (ad 2 0) (σ 32 0) (σ 0 0) (fun i => if i < σ 0 0 then some (ad (4 + 2 * 0) i) else none) (.int (nI (σ 16 0))) i (ad 4 i) hi (hF.c 0) (hB _ _) (if_pos hi)) (cwV 1 hts gX7_droppedShare_Jx4a65c_get_915e3 rfl rfl rfl (by decide +kernel) ⟨Nat.le_of_ble_eq_true rfl, Nat.le_of_ble_eq_true rfl⟩) ⟨qO.blind, qrecv hC (hW.to (qLV1 (j := 0) (by decide))) rfl, qO.pre hC (hW.list hF (J := 0) (by decide) hi)⟩ rfl rfl hl.1 rfl (lv_room (Nat.le_of_ble_eq_true rfl)) dX7_droppedShare_37 ⟨Nat.le_of_ble_eq_true rfl, Nat.le_of_ble_eq_true rfl⟩) hS (fun _ h => h.elim) (fun locs hS => ?_)
    refine va_castS hx hb hown (hts (.classLink RX7 74 "LogWeave$Line") (List.mem_of_getElem? (i := 4) (by decide +kernel))) (hC.1.1 6 _ rfl).2 (qrecv hC (hW.to (qLV4 hi)) rfl) dX7_droppedShare_40 ?_
    refine q_getN (C := RX3) (T := TX3) (N := 8) hx hb hts iRX3 hown hC.1 (hW.to (qLV4 hi)) rfl 6 (by decide) (va_Nw.use rfl (qf_RX7_103 hC)) rfl (v := .int (nI (σ 69 i))) rfl dX7_droppedShare_43 ?_
    refine lv_bipush (v := nI 100) hx hb dX7_droppedShare_46 (by decide) ?_
    refine q_ne (tgt := 54) hx hb (q31 (hB _ _)) (by decide) dX7_droppedShare_48 (by decide) (fun c2 => ?_) (fun c2 => ?_)
    · skip
      refine lv_iinc (v := nI (i + 1)) (lv' := [(3, .int (nI (i + 1))), (0, .ref (ad 0 0)), (1, .int (nI (σ 0 0))), (2, .int (nI v))]) hx hb dX7_droppedShare_54 hl (k := 3) rfl (nI_1 i) (by decide) rfl (fun ls hl => ?_)
      refine lv_goto (tgt := 27) hx hb dX7_droppedShare_57 (by decide) ?_
      exact ih _ locs ls ⟨rfl, hS, v, by rw [e_v, qsum, qB_f c2]; rfl, lv_sub hl [1, 2, 3, 0] rfl⟩
    · skip
      refine lv_iinc (v := nI (v + 1)) (lv' := [(2, .int (nI (v + 1))), (0, .ref (ad 0 0)), (1, .int (nI (σ 0 0))), (3, .int (nI i))]) hx hb dX7_droppedShare_51 hl (k := 2) rfl (nI_1 v) (by decide) rfl (fun ls hl => ?_)
      refine lv_iinc (v := nI (i + 1)) (lv' := [(3, .int (nI (i + 1))), (2, .int (nI (v + 1))), (0, .ref (ad 0 0)), (1, .int (nI (σ 0 0)))]) hx hb dX7_droppedShare_54 hl (k := 3) rfl (nI_1 i) (by decide) rfl (fun ls hl => ?_)
      refine lv_goto (tgt := 27) hx hb dX7_droppedShare_57 (by decide) ?_
      exact ih _ locs ls ⟨rfl, hS, (v + 1), by rw [e_v, qsum, qB_t c2], lv_sub hl [2, 3, 1, 0] rfl⟩
