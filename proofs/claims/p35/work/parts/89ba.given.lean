/-! the law: what the tables and the start give -/
abbrev lw_fl : List Cond := flatC (Jvm.Cond.and given_1 narrow_1)
theorem s_arr {args : Array Value} {s : State} {ty : FieldType} (hp : ∀ C, ty ≠ .object C) (h : (Cond.arrayClass ty).before args s = true) : ∃ cA, ArrOfT s cA ty ∧ va_RA s cA ty := by
  obtain ⟨c, k, comp, h1, h2, h3⟩ := Cond.arrayClass_spec h
  refine ⟨c, fun n z => ⟨fun k9 h9 => (by cases h9), k, h2, comp, h3⟩, ?_⟩
  cases ty with
  | object C => exact absurd rfl (hp C)
  | _ => exact h1
theorem s_arrO {args : Array Value} {s : State} {C : String} (h : (Cond.arrayOver (.object C)).before args s = true) : ∃ cA, ArrOfT s cA (.object C) ∧ va_RA s cA (.object C) := by
  obtain ⟨comp, c, k, h1, h2, h3, h4, h5⟩ := Cond.arrayOver_spec h
  exact ⟨c, fun n z => ⟨fun k9 h9 => (by cases h9), k, h3, comp, h4⟩, k, comp, h3, h4, h1, h5⟩
section ST
variable {s : State} {b : Nat}
set_option maxRecDepth 100000 in
theorem s_nw (hts : ∀ w ∈ lw_tbl, w.before #[Value.ref b] s = true) : ∀ w ∈ qwords, va_Nw w s :=
  fun w hw => va_Nw.of (qok_tab (qok_words w hw)) (hts w (List.mem_append_right _ (l_pos [423, 428, 432, 437, 473, 254, 259, 130, 131, 132, 133, 134, 135, 136, 202, 218, 223, 225, 227, 267, 272, 274, 276, 277, 352, 357, 358, 360, 361, 363, 364, 366, 368, 370, 372, 373, 374, 400, 409, 410, 444, 449, 451, 452, 454, 472, 477, 587, 504, 612, 615, 620, 622, 623, 624, 521, 526, 528, 530, 532, 534, 536, 537, 539, 540, 712, 713, 714, 788, 646, 664, 686, 863, 899, 900, 901, 900, 902, 903, 904, 905, 906, 907, 910, 909, 911, 908, 913, 914, 912, 915, 916, 917, 920, 921, 922, 923, 924, 921, 925, 921] (by decide +kernel) w hw)))
set_option maxRecDepth 100000 in
theorem s_str (hts : ∀ w ∈ lw_tbl, w.before #[Value.ref b] s = true) (hfl : ∀ w ∈ lw_fl, w.before #[Value.ref b] s = true) : qStr s := by
  intro x hx
  have h1 : (Cond.stringRef RX7 x.1 x.2).before #[Value.ref b] s = true := hts _ (List.mem_append_right _ (l_pos (ws := qstrs.map fun x => Cond.stringRef RX7 x.1 x.2) [173, 209, 576, 601, 606, 607, 776, 777, 501, 502, 643, 653, 676, 677, 870, 575, 749, 594, 744, 745, 795, 642] (by decide +kernel) _ (List.mem_map.mpr ⟨x, hx, rfl⟩)))
  have h2 : (Cond.exactly (.string RX7 x.1) "java/lang/String").before #[Value.ref b] s = true := hfl _ (l_pos (ws := qstrs.map fun x => Cond.exactly (.string RX7 x.1) "java/lang/String") [85, 125, 249, 315, 346, 396, 813, 859, 149, 192, 468, 506, 568, 620, 959, 215, 767, 284, 665, 708, 913, 431] (by decide +kernel) _ (List.mem_map.mpr ⟨x, hx, rfl⟩))
  obtain ⟨a, c, cell, k, q1, -⟩ := Cond.exactly_spec (args := #[Value.ref b]) (first := s) (o := none) (s := s) (idx := []) h2
  exact ⟨a, vk_R.of h1 q1⟩
set_option maxRecDepth 100000 in
theorem s_nc (hfl : ∀ w ∈ lw_fl, w.before #[Value.ref b] s = true) : qNc s := by
  intro x hx
  exact va_Nc.of (hfl _ (l_pos (ws := qncs.map fun x => Cond.not (.castable x.1 x.2)) [12, 36, 21, 72, 80, 19, 34] (by decide +kernel) _ (List.mem_map.mpr ⟨x, hx, rfl⟩)))
set_option maxRecDepth 100000 in
theorem s_sz (hts : ∀ w ∈ lw_tbl, w.before #[Value.ref b] s = true) (hfl : ∀ w ∈ lw_fl, w.before #[Value.ref b] s = true) : ∃ es, qSZ es (lF s) s s.heap := by
  have hA : ∀ a : Nat, a < s.heap.size → ¬ (lF s) a := fun a h => Nat.not_le.mpr h
  have e1 : (Cond.laysStatic "java/util/ArrayList" "DEFAULTCAPACITY_EMPTY_ELEMENTDATA" "[Ljava/lang/Object;").before #[Value.ref b] s = true := hts _ (List.mem_append_right _ (List.mem_of_getElem? (i := 51) (by decide +kernel)))
  have e2 : (Cond.initialized "java/util/ArrayList").before #[Value.ref b] s = true := hts _ (List.mem_append_right _ (List.mem_of_getElem? (i := 4) (by decide +kernel)))
  have e3 : (Cond.arrayOf (.static "java/util/ArrayList" "DEFAULTCAPACITY_EMPTY_ELEMENTDATA" "[Ljava/lang/Object;") (.object "java/lang/Object")).before #[Value.ref b] s = true := hfl _ (List.mem_of_getElem? (i := 5) (by decide +kernel))
  have e4 : (Cond.eq (.length (.static "java/util/ArrayList" "DEFAULTCAPACITY_EMPTY_ELEMENTDATA" "[Ljava/lang/Object;")) (.int 0)).before #[Value.ref b] s = true := hfl _ (List.mem_of_getElem? (i := 7) (by decide +kernel))
  have e5 : (Cond.laysStatic "java/lang/Throwable" "UNASSIGNED_STACK" "[Ljava/lang/StackTraceElement;").before #[Value.ref b] s = true := hts _ (List.mem_append_right _ (List.mem_of_getElem? (i := 155) (by decide +kernel)))
  have e6 : (Cond.laysStatic "java/lang/Throwable" "SUPPRESSED_SENTINEL" "Ljava/util/List;").before #[Value.ref b] s = true := hts _ (List.mem_append_right _ (List.mem_of_getElem? (i := 157) (by decide +kernel)))
  have e7 : (Cond.initialized "java/lang/Throwable").before #[Value.ref b] s = true := hts _ (List.mem_append_right _ (List.mem_of_getElem? (i := 5) (by decide +kernel)))
  have e8 : (Cond.isRef (.static "java/lang/Throwable" "UNASSIGNED_STACK" "[Ljava/lang/StackTraceElement;")).before #[Value.ref b] s = true := hfl _ (List.mem_of_getElem? (i := 8) (by decide +kernel))
  have e9 : (Cond.isRef (.static "java/lang/Throwable" "SUPPRESSED_SENTINEL" "Ljava/util/List;")).before #[Value.ref b] s = true := hfl _ (List.mem_of_getElem? (i := 9) (by decide +kernel))
  obtain ⟨t, t1, t2⟩ := va_Tof (N := 0) (f := fun _ => .null) (by decide) e3 (va_eqt e4) (fun j hj => absurd hj (Nat.not_lt_zero j)) hA
  exact ⟨t, va_Zref e1 e2 t1 hA, t2, vx_Zqof e5 e7 e8 hA, vx_Zqof e6 e7 e9 hA⟩
set_option maxRecDepth 100000 in
theorem s_K (hts : ∀ w ∈ lw_tbl, w.before #[Value.ref b] s = true) : ∃ G : QG, va_K G.1 vwCl (qtys G) s := by
  obtain ⟨c0, i0, h0⟩ := u_known (C := RJ0) (T := TJ0) (N := 2) (n := 4) hts inJ0 (hts _ (List.mem_append_right _ (List.mem_of_getElem? (i := 716) (by decide +kernel))))
  obtain ⟨c1, i1, h1⟩ := u_known (C := RJx00060) (T := TJx00060) (N := 6) (n := 6) hts inJx00060 (hts _ (List.mem_append_right _ (List.mem_of_getElem? (i := 698) (by decide +kernel))))
  obtain ⟨c2, i2, h2⟩ := u_known (C := RJx4a65c) (T := TJx4a65c) (N := 3) (n := 3) hts inJx4a65c (hts _ (List.mem_append_right _ (List.mem_of_getElem? (i := 39) (by decide +kernel))))
  obtain ⟨c3, i3, h3⟩ := u_known (C := RX0) (T := TX0) (N := 9) (n := 9) hts inX0 (hts _ (List.mem_append_right _ (List.mem_of_getElem? (i := 426) (by decide +kernel))))
  obtain ⟨c4, i4, h4⟩ := u_known (C := RX1) (T := TX1) (N := 4) (n := 4) hts inX1 (hts _ (List.mem_append_right _ (List.mem_of_getElem? (i := 435) (by decide +kernel))))
  obtain ⟨c5, i5, h5⟩ := u_known (C := RX2) (T := TX2) (N := 5) (n := 5) hts inX2 (hts _ (List.mem_append_right _ (List.mem_of_getElem? (i := 443) (by decide +kernel))))
  obtain ⟨c6, i6, h6⟩ := u_known (C := RX3) (T := TX3) (N := 8) (n := 8) hts inX3 (hts _ (List.mem_append_right _ (List.mem_of_getElem? (i := 351) (by decide +kernel))))
  obtain ⟨c7, i7, h7⟩ := u_known (C := RX4) (T := TX4) (N := 4) (n := 4) hts inX4 (hts _ (List.mem_append_right _ (List.mem_of_getElem? (i := 257) (by decide +kernel))))
  obtain ⟨c8, i8, h8⟩ := u_known (C := RX5) (T := TX5) (N := 4) (n := 4) hts inX5 (hts _ (List.mem_append_right _ (List.mem_of_getElem? (i := 614) (by decide +kernel))))
  obtain ⟨c9, i9, h9⟩ := u_known (C := RX6) (T := TX6) (N := 3) (n := 3) hts inX6 (hts _ (List.mem_append_right _ (List.mem_of_getElem? (i := 217) (by decide +kernel))))
  obtain ⟨c10, i10, h10⟩ := u_known (C := RX7) (T := TX7) (N := 7) (n := 7) hts inX7 (hts _ (List.mem_append_right _ (List.mem_of_getElem? (i := 31) (by decide +kernel))))
  obtain ⟨a0, b0⟩ := s_arrO (C := "java/lang/Object") (hts _ (List.mem_append_right _ (List.mem_of_getElem? (i := 340) (by decide +kernel))))
  obtain ⟨a1, b1⟩ := s_arr (ty := .int) (fun C z => by cases z) (hts _ (List.mem_append_right _ (List.mem_of_getElem? (i := 86) (by decide +kernel))))
  obtain ⟨a2, b2⟩ := s_arr (ty := .long) (fun C z => by cases z) (hts _ (List.mem_append_right _ (List.mem_of_getElem? (i := 467) (by decide +kernel))))
  obtain ⟨a3, b3⟩ := s_arr (ty := .boolean) (fun C z => by cases z) (hts _ (List.mem_append_right _ (List.mem_of_getElem? (i := 845) (by decide +kernel))))
  refine ⟨((fun k => ([c0, c1, c2, c3, c4, c5, c6, c7, c8, c9, c10] : List ClassId).getD k c0, fun k => ([i0, i1, i2, i3, i4, i5, i6, i7, i8, i9, i10] : List (Nat → Nat)).getD k i0), fun k => ([a0, a1, a2, a3] : List ClassId).getD k a0), fun k q hq => ?_, fun k q hq => ?_⟩
  · match k, hq with
    | 0, hq => cases hq; exact h0
    | 1, hq => cases hq; exact h1
    | 2, hq => cases hq; exact h2
    | 3, hq => cases hq; exact h3
    | 4, hq => cases hq; exact h4
    | 5, hq => cases hq; exact h5
    | 6, hq => cases hq; exact h6
    | 7, hq => cases hq; exact h7
    | 8, hq => cases hq; exact h8
    | 9, hq => cases hq; exact h9
    | 10, hq => cases hq; exact h10
    | k + 11, hq => simp [vwCl] at hq
  · match k, hq with
    | 0, hq => cases hq; exact b0
    | 1, hq => cases hq; exact b1
    | 2, hq => cases hq; exact b2
    | 3, hq => cases hq; exact b3
    | k + 4, hq => simp [qtys] at hq
theorem s_all (hts : ∀ w ∈ lw_tbl, w.before #[Value.ref b] s = true) (hgv : (Jvm.Cond.and given_1 narrow_1).before #[Value.ref b] s = true) : ∃ (G : QG) (es : Nat), qCX G s ∧ qSZ es (lF s) s s.heap ∧ qStr s ∧ qNc s := by
  have hfl : ∀ w ∈ lw_fl, w.before #[Value.ref b] s = true := flat_of_before _ hgv
  obtain ⟨G, hK⟩ := s_K hts
  obtain ⟨es, hZ⟩ := s_sz hts hfl
  obtain ⟨mi, hM⟩ := va_Mi.of (hfl (.isRef (.mirror "[Ljava/lang/Object;")) (List.mem_of_getElem? (i := 84) (by decide +kernel)))
  exact ⟨G, es, ⟨hK, s_nw hts, va_AO.of (hts (.arrayOver (.object "java/lang/Object")) (List.mem_append_right _ (List.mem_of_getElem? (i := 340) (by decide +kernel)))), mi, hM⟩, hZ, s_str hts hfl, s_nc hfl⟩
theorem s_tr {l : Launch} (h : l.flags = flags0) : l.stackTraces = false := by
  unfold Launch.stackTraces
  rw [h]
  decide +kernel
end ST
