/-! the law: what the tables and the start give -/
abbrev lw_fl : List Cond := flatC (Jvm.Cond.and given_1 narrow_1)
theorem s_arr {args : Array Value} {s : State} {ty : FieldType} (hp : ∀ C, ty ≠ .object C) (h : (Cond.arrayClass ty).before args s = true) : ∃ cA, ArrOfT s cA ty ∧ va_RA s cA ty := by
  obtain ⟨c, k, comp, h1, h2, h3⟩ := Cond.arrayClass_spec h
  refine ⟨c, fun n z => ⟨fun k9 h9 => (by cases h9), k, h2, comp, h3⟩, ?_⟩
  cases ty with
  | object C => exact absurd rfl (hp C)
  | _ => exact h1
theorem s_arrO {args : Array Value} {s : State} {C : String} (h : (Cond.arrayOver (.object C)).before args s = true) : ∃ cA, ArrOfT s cA (.object C) ∧ va_RA s cA (.object C) := by
  obtain ⟨comp, c, k, h1, h2, h3, h4, h5⟩ := Cond.arrayOver_spec h
  exact ⟨c, fun n z => ⟨fun k9 h9 => (by cases h9), k, h3, comp, h4⟩, k, comp, h3, h4, h1, h5⟩
section ST
variable {s : State} {b : Nat}
set_option maxRecDepth 100000 in
theorem s_nw (hts : ∀ w ∈ lw_tbl, w.before #[Value.ref b] s = true) : ∀ w ∈ qwords, va_Nw w s :=
  fun w hw => va_Nw.of (qok_tab (qok_words w hw)) (hts w (List.mem_append_right _ (l_pos [136, 141, 146, 151, 165, 174, 179, 203, 204, 205, 206, 207, 208, 209, 275, 290, 295, 297, 299, 316, 321, 323, 325, 326, 400, 405, 406, 408, 409, 411, 412, 414, 416, 418, 420, 421, 422, 448, 457, 458, 474, 479, 481, 482, 484, 502, 503, 534, 643, 664, 667, 672, 674, 675, 676, 704, 709, 711, 713, 715, 717, 719, 720, 722, 723, 761, 762, 763, 780, 856, 874, 906, 929, 1283, 1284, 1285, 1286, 1287, 1288, 1289, 1290, 1291, 1292, 1293, 1294, 1295, 1296, 1297, 1298, 1299, 1300, 1301, 1302, 1305, 1306, 1307, 1308, 1309, 1310, 1311, 1312] (by decide +kernel) w hw)))
set_option maxRecDepth 100000 in
theorem s_str (hts : ∀ w ∈ lw_tbl, w.before #[Value.ref b] s = true) (hfl : ∀ w ∈ lw_fl, w.before #[Value.ref b] s = true) : qStr s := by
  intro x hx
  have h1 : (Cond.stringRef RX7 x.1 x.2).before #[Value.ref b] s = true := hts _ (List.mem_append_right _ (l_pos (ws := qstrs.map fun x => Cond.stringRef RX7 x.1 x.2) [246, 282, 610, 632, 640, 641, 693, 694, 702, 703, 853, 863, 896, 897, 936, 945, 565, 582, 541, 577, 578, 787, 823] (by decide +kernel) _ (List.mem_map.mpr ⟨x, hx, rfl⟩)))
  have h2 : (Cond.exactly (.string RX7 x.1) "java/lang/String").before #[Value.ref b] s = true := hfl _ (l_pos (ws := qstrs.map fun x => Cond.exactly (.string RX7 x.1) "java/lang/String") [106, 146, 345, 382, 414, 465, 501, 540, 587, 641, 759, 803, 871, 929, 980, 1023, 197, 310, 170, 230, 262, 675, 716] (by decide +kernel) _ (List.mem_map.mpr ⟨x, hx, rfl⟩))
  obtain ⟨a, c, cell, k, q1, -⟩ := Cond.exactly_spec (args := #[Value.ref b]) (first := s) (o := none) (s := s) (idx := []) h2
  exact ⟨a, vk_R.of h1 q1⟩
set_option maxRecDepth 100000 in
theorem s_nc (hfl : ∀ w ∈ lw_fl, w.before #[Value.ref b] s = true) : qNc s := by
  intro x hx
  exact va_Nc.of (hfl _ (l_pos (ws := qncs.map fun x => Cond.not (.castable x.1 x.2)) [13, 45, 46, 56, 40] (by decide +kernel) _ (List.mem_map.mpr ⟨x, hx, rfl⟩)))
set_option maxRecDepth 100000 in
theorem s_sz (hts : ∀ w ∈ lw_tbl, w.before #[Value.ref b] s = true) (hfl : ∀ w ∈ lw_fl, w.before #[Value.ref b] s = true) : ∃ es, qSZ es (lF s) s s.heap := by
  have hA : ∀ a : Nat, a < s.heap.size → ¬ (lF s) a := fun a h => Nat.not_le.mpr h
  have e1 : (Cond.laysStatic "java/util/ArrayList" "DEFAULTCAPACITY_EMPTY_ELEMENTDATA" "[Ljava/lang/Object;").before #[Value.ref b] s = true := hts _ (List.mem_append_right _ (List.mem_of_getElem? (i := 52) (by decide +kernel)))
  have e2 : (Cond.initialized "java/util/ArrayList").before #[Value.ref b] s = true := hts _ (List.mem_append_right _ (List.mem_of_getElem? (i := 4) (by decide +kernel)))
  have e3 : (Cond.arrayOf (.static "java/util/ArrayList" "DEFAULTCAPACITY_EMPTY_ELEMENTDATA" "[Ljava/lang/Object;") (.object "java/lang/Object")).before #[Value.ref b] s = true := hfl _ (List.mem_of_getElem? (i := 5) (by decide +kernel))
  have e4 : (Cond.eq (.length (.static "java/util/ArrayList" "DEFAULTCAPACITY_EMPTY_ELEMENTDATA" "[Ljava/lang/Object;")) (.int 0)).before #[Value.ref b] s = true := hfl _ (List.mem_of_getElem? (i := 7) (by decide +kernel))
  have e5 : (Cond.laysStatic "java/lang/Throwable" "UNASSIGNED_STACK" "[Ljava/lang/StackTraceElement;").before #[Value.ref b] s = true := hts _ (List.mem_append_right _ (List.mem_of_getElem? (i := 228) (by decide +kernel)))
  have e6 : (Cond.laysStatic "java/lang/Throwable" "SUPPRESSED_SENTINEL" "Ljava/util/List;").before #[Value.ref b] s = true := hts _ (List.mem_append_right _ (List.mem_of_getElem? (i := 230) (by decide +kernel)))
  have e7 : (Cond.initialized "java/lang/Throwable").before #[Value.ref b] s = true := hts _ (List.mem_append_right _ (List.mem_of_getElem? (i := 6) (by decide +kernel)))
  have e8 : (Cond.isRef (.static "java/lang/Throwable" "UNASSIGNED_STACK" "[Ljava/lang/StackTraceElement;")).before #[Value.ref b] s = true := hfl _ (List.mem_of_getElem? (i := 8) (by decide +kernel))
  have e9 : (Cond.isRef (.static "java/lang/Throwable" "SUPPRESSED_SENTINEL" "Ljava/util/List;")).before #[Value.ref b] s = true := hfl _ (List.mem_of_getElem? (i := 9) (by decide +kernel))
  obtain ⟨t, t1, t2⟩ := va_Tof (N := 0) (f := fun _ => .null) (by decide) e3 (va_eqt e4) (fun j hj => absurd hj (Nat.not_lt_zero j)) hA
  exact ⟨t, va_Zref e1 e2 t1 hA, t2, vx_Zqof e5 e7 e8 hA, vx_Zqof e6 e7 e9 hA⟩
set_option maxRecDepth 100000 in
theorem s_K (hts : ∀ w ∈ lw_tbl, w.before #[Value.ref b] s = true) : ∃ G : QG, va_K G.1 vwCl (qtys G) s := by
  obtain ⟨c0, i0, h0⟩ := u_known (C := RJ0) (T := TJ0) (N := 2) (n := 4) hts inJ0 (hts _ (List.mem_append_right _ (List.mem_of_getElem? (i := 765) (by decide +kernel))))
  obtain ⟨c1, i1, h1⟩ := u_known (C := RJx00060) (T := TJx00060) (N := 6) (n := 6) hts inJx00060 (hts _ (List.mem_append_right _ (List.mem_of_getElem? (i := 747) (by decide +kernel))))
  obtain ⟨c2, i2, h2⟩ := u_known (C := RJx4a65c) (T := TJx4a65c) (N := 3) (n := 3) hts inJx4a65c (hts _ (List.mem_append_right _ (List.mem_of_getElem? (i := 40) (by decide +kernel))))
  obtain ⟨c3, i3, h3⟩ := u_known (C := RX0) (T := TX0) (N := 9) (n := 9) hts inX0 (hts _ (List.mem_append_right _ (List.mem_of_getElem? (i := 139) (by decide +kernel))))
  obtain ⟨c4, i4, h4⟩ := u_known (C := RX1) (T := TX1) (N := 4) (n := 4) hts inX1 (hts _ (List.mem_append_right _ (List.mem_of_getElem? (i := 149) (by decide +kernel))))
  obtain ⟨c5, i5, h5⟩ := u_known (C := RX2) (T := TX2) (N := 5) (n := 5) hts inX2 (hts _ (List.mem_append_right _ (List.mem_of_getElem? (i := 168) (by decide +kernel))))
  obtain ⟨c6, i6, h6⟩ := u_known (C := RX3) (T := TX3) (N := 8) (n := 8) hts inX3 (hts _ (List.mem_append_right _ (List.mem_of_getElem? (i := 144) (by decide +kernel))))
  obtain ⟨c7, i7, h7⟩ := u_known (C := RX4) (T := TX4) (N := 4) (n := 4) hts inX4 (hts _ (List.mem_append_right _ (List.mem_of_getElem? (i := 177) (by decide +kernel))))
  obtain ⟨c8, i8, h8⟩ := u_known (C := RX5) (T := TX5) (N := 4) (n := 4) hts inX5 (hts _ (List.mem_append_right _ (List.mem_of_getElem? (i := 666) (by decide +kernel))))
  obtain ⟨c9, i9, h9⟩ := u_known (C := RX6) (T := TX6) (N := 3) (n := 3) hts inX6 (hts _ (List.mem_append_right _ (List.mem_of_getElem? (i := 154) (by decide +kernel))))
  obtain ⟨c10, i10, h10⟩ := u_known (C := RX7) (T := TX7) (N := 7) (n := 7) hts inX7 (hts _ (List.mem_append_right _ (List.mem_of_getElem? (i := 32) (by decide +kernel))))
  obtain ⟨c11, i11, h11⟩ := u_known (C := RX8) (T := TX8) (N := 36) (n := 36) hts inX8 (hts _ (List.mem_append_right _ (List.mem_of_getElem? (i := 947) (by decide +kernel))))
  obtain ⟨a0, b0⟩ := s_arrO (C := "java/lang/Object") (hts _ (List.mem_append_right _ (List.mem_of_getElem? (i := 390) (by decide +kernel))))
  obtain ⟨a1, b1⟩ := s_arr (ty := .int) (fun C z => by cases z) (hts _ (List.mem_append_right _ (List.mem_of_getElem? (i := 87) (by decide +kernel))))
  obtain ⟨a2, b2⟩ := s_arr (ty := .long) (fun C z => by cases z) (hts _ (List.mem_append_right _ (List.mem_of_getElem? (i := 497) (by decide +kernel))))
  obtain ⟨a3, b3⟩ := s_arr (ty := .char) (fun C z => by cases z) (hts _ (List.mem_append_right _ (List.mem_of_getElem? (i := 1061) (by decide +kernel))))
  obtain ⟨a4, b4⟩ := s_arr (ty := .boolean) (fun C z => by cases z) (hts _ (List.mem_append_right _ (List.mem_of_getElem? (i := 1062) (by decide +kernel))))
  obtain ⟨a5, b5⟩ := s_arr (ty := .double) (fun C z => by cases z) (hts _ (List.mem_append_right _ (List.mem_of_getElem? (i := 1281) (by decide +kernel))))
  refine ⟨((fun k => ([c0, c1, c2, c3, c4, c5, c6, c7, c8, c9, c10, c11] : List ClassId).getD k c0, fun k => ([i0, i1, i2, i3, i4, i5, i6, i7, i8, i9, i10, i11] : List (Nat → Nat)).getD k i0), fun k => ([a0, a1, a2, a3, a4, a5] : List ClassId).getD k a0), fun k q hq => ?_, fun k q hq => ?_⟩
  · match k, hq with
    | 0, hq => cases hq; exact h0
    | 1, hq => cases hq; exact h1
    | 2, hq => cases hq; exact h2
    | 3, hq => cases hq; exact h3
    | 4, hq => cases hq; exact h4
    | 5, hq => cases hq; exact h5
    | 6, hq => cases hq; exact h6
    | 7, hq => cases hq; exact h7
    | 8, hq => cases hq; exact h8
    | 9, hq => cases hq; exact h9
    | 10, hq => cases hq; exact h10
    | 11, hq => cases hq; exact h11
    | k + 12, hq => simp [vwCl] at hq
  · match k, hq with
    | 0, hq => cases hq; exact b0
    | 1, hq => cases hq; exact b1
    | 2, hq => cases hq; exact b2
    | 3, hq => cases hq; exact b3
    | 4, hq => cases hq; exact b4
    | 5, hq => cases hq; exact b5
    | k + 6, hq => simp [qtys] at hq
theorem s_all (hts : ∀ w ∈ lw_tbl, w.before #[Value.ref b] s = true) (hgv : (Jvm.Cond.and given_1 narrow_1).before #[Value.ref b] s = true) : ∃ (G : QG) (es : Nat), qCX G s ∧ qSZ es (lF s) s s.heap ∧ qStr s ∧ qNc s := by
  have hfl : ∀ w ∈ lw_fl, w.before #[Value.ref b] s = true := flat_of_before _ hgv
  obtain ⟨G, hK⟩ := s_K hts
  obtain ⟨es, hZ⟩ := s_sz hts hfl
  obtain ⟨mi, hM⟩ := va_Mi.of (hfl (.isRef (.mirror "[Ljava/lang/Object;")) (List.mem_of_getElem? (i := 105) (by decide +kernel)))
  exact ⟨G, es, ⟨hK, s_nw hts, va_AO.of (hts (.arrayOver (.object "java/lang/Object")) (List.mem_append_right _ (List.mem_of_getElem? (i := 390) (by decide +kernel)))), mi, hM⟩, hZ, s_str hts hfl, s_nc hfl⟩
theorem s_tr {l : Launch} (h : l.flags = flags0) : l.stackTraces = false := by
  unfold Launch.stackTraces
  rw [h]
  decide +kernel
end ST
