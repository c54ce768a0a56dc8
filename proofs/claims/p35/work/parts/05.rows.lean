section QR
variable {p : Program} {l : Launch} {e : Env} {R : Room} {s : State} {m : MethodId} {args : Array Value} {below : List Frame} {meth : Method} {c : Code} {H : Heap} {locs : List Loc} {cells slots : Nat} {Q : State → Prop}
variable {cc : ByteArray} {pc : Nat} {ls : Array Slot} {rest st0 : List Value} {D : va_G} {cl : List vw_C} {A A0 A1 : Nat → Prop} {a : Nat} {tys : List (ClassId × FieldType)} {H0 : Heap} {mc ms : Nat} {free : Addr → Prop} {av : Array Value}

theorem q_t {v w : Value} (h : v = w) (k : W p l e R s m args below meth c H locs cells slots Q (F0 m pc ls (w :: rest))) : W p l e R s m args below meth c H locs cells slots Q (F0 m pc ls (v :: rest)) := by rw [h]; exact k
theorem q_ti {x y : Int32} (h : x = y) (k : W p l e R s m args below meth c H locs cells slots Q (F0 m pc ls (.int y :: rest))) : W p l e R s m args below meth c H locs cells slots Q (F0 m pc ls (.int x :: rest)) := by rw [h]; exact k
theorem q_tl {x y : Int64} (h : x = y) (k : W p l e R s m args below meth c H locs cells slots Q (F0 m pc ls (.long y :: rest))) : W p l e R s m args below meth c H locs cells slots Q (F0 m pc ls (.long x :: rest)) := by rw [h]; exact k
theorem q_get (hexec : p.tables.exec = Jvm.exec) (hb : c.code = cc) {own C : String} {T : u_T} {N ci index : Nat} {Ts : List Cond} (hts : ∀ w ∈ Ts, w.before args s = true) (hin : ∀ w ∈ u_ws C T N, w ∈ Ts) (hown : s.vm.findClass own = some m.cls) (hK : va_K D cl tys s) {fs : List Value} (hat : va_at D cl (a, .inr (ci, fs)) H) (hc : cl[ci]? = some (C, T, N)) (k : Nat) (hk : k < N) (hlink : (Cond.fieldLink own index C (T k).2.1 (T k).2.2.1).before args s = true) (hr : (T k).1 = C) {v : Value} (hv : fs[k]? = some v) (hdg : decode cc pc = .ok (.getfield index, 3))
    (kk : W p l e R s m args below meth c H locs cells slots Q (F0 m (pc + 3) ls (v :: rest))) : W p l e R s m args below meth c H locs cells slots Q (F0 m pc ls (.ref a :: rest)) :=
  va_get hexec hb hts hin hown hK (va_P1 hat) 0 rfl hc k hk hlink (fun x hx => by rw [← hr]; exact hx) hv hdg kk
theorem q_getN (hexec : p.tables.exec = Jvm.exec) (hb : c.code = cc) {own C : String} {host : String} {T : u_T} {N ci index : Nat} {Ts : List Cond} (hts : ∀ w ∈ Ts, w.before args s = true) (hin : ∀ w ∈ u_ws C T N, w ∈ Ts) (hown : s.vm.findClass own = some m.cls) (hK : va_K D cl tys s) {fs : List Value} (hat : va_at D cl (a, .inr (ci, fs)) H) (hc : cl[ci]? = some (C, T, N)) (k : Nat) (hk : k < N) (hlink : (Cond.fieldLinkNest own index C (T k).2.1 (T k).2.2.1 host).before args s = true) (hr : (T k).1 = C) {v : Value} (hv : fs[k]? = some v) (hdg : decode cc pc = .ok (.getfield index, 3))
    (kk : W p l e R s m args below meth c H locs cells slots Q (F0 m (pc + 3) ls (v :: rest))) : W p l e R s m args below meth c H locs cells slots Q (F0 m pc ls (.ref a :: rest)) :=
  va_getN hexec hb hts hin hown hK (va_P1 hat) 0 rfl hc k hk hlink (fun x hx => by rw [← hr]; exact hx) hv hdg kk
theorem q_put (hexec : p.tables.exec = Jvm.exec) (hb : c.code = cc) {own C : String} {T : u_T} {N ci index : Nat} {Ts : List Cond} (hts : ∀ w ∈ Ts, w.before args s = true) (hin : ∀ w ∈ u_ws C T N, w ∈ Ts) (ty0 : Nat → FieldType) (hty : ∀ k, k < N → parseFieldDescriptor (T k).2.2.1 = some (ty0 k)) (hnm : ∀ a, a < N → ∀ b, b < N → a ≠ b → (T a).2.1 ≠ (T b).2.1) (hown : s.vm.findClass own = some m.cls) (hK : va_K D cl tys s) {fs : List Value} (hat : va_at D cl (a, .inr (ci, fs)) H) (hA : A a) (hS0 : va_S A H0 H locs) (hc : cl[ci]? = some (C, T, N)) (k : Nat) (hk : k < N) (hlink : (Cond.fieldLink own index C (T k).2.1 (T k).2.2.1).before args s = true) (hr : (T k).1 = C) (hfin : (T k).2.2.2 = false) {ty : FieldType} {v : Value} (hd : parseFieldDescriptor (T k).2.2.1 = some ty) (hn : narrow ty v = v) (hfit : fits ty v = true) (hl : k < fs.length) (hdg : decode cc pc = .ok (.putfield index, 3))
    (kk : ∀ (H1 : Heap) (locs1 : List Loc), va_at D cl (a, .inr (ci, fs.set k v)) H1 → H1.size = H.size → (∀ q, q ≠ a → H1[q]? = H[q]?) → va_S A H0 H1 locs1 → W p l e R s m args below meth c H1 locs1 cells slots Q (F0 m (pc + 3) ls rest)) : W p l e R s m args below meth c H locs cells slots Q (F0 m pc ls (v :: .ref a :: rest)) := by
  have hsame : ∀ x, s.fieldFound? (T k).1 (T k).2.1 (T k).2.2.1 = some x → s.fieldFound? C (T k).2.1 (T k).2.2.1 = some x := fun x hx => by rw [← hr]; exact hx
  have hap := va_apart (own := own) hts hin ty0 hty hnm hK hc
  obtain ⟨r, h1, cell, q1, q2, q3, q4⟩ := hat
  have hr9 : r = (C, T, N) := Option.some.inj (h1.symm.trans hc)
  subst hr9
  obtain ⟨hS, hfc, kC, hkC, hkind⟩ := hK.1 ci _ hc
  obtain ⟨cf, kf, fi, f, hi, hsl⟩ := hS k hk
  have hlay := hts _ (hin _ (u_in_lay hk))
  unfold u_lay at hlay
  rw [if_neg (by rw [hfin]; decide)] at hlay
  have hst := (u_facts hfc hkC (u_lays hts hin hk) hi).1
  have h6 := u_store hfc hkC hkind hlay hi hd hn hfit
  refine W.putK hexec hb (f := f) ⟨hown, hlink, ⟨_, _, _, hsame _ hi⟩, hst⟩ (by rw [q2]; exact h6) q1 q3 (by rw [hsl]; exact k2_hasslot (q4 k hk)) rfl rfl hdg fun H' e1 e2 e3 => ?_
  rw [hsl] at e1 ⊢
  exact kk H' _ ⟨_, hc, t_OB.to (V := updV (vp_V fs) k v) ⟨_, e1, q2, q3, t_set q4 hap hk v⟩ (fun j _ => vp_updV_set hl v j)⟩ e2 e3 (hS0.put e2 e3 hA)
theorem q_putN (hexec : p.tables.exec = Jvm.exec) (hb : c.code = cc) {own C : String} {host : String} {T : u_T} {N ci index : Nat} {Ts : List Cond} (hts : ∀ w ∈ Ts, w.before args s = true) (hin : ∀ w ∈ u_ws C T N, w ∈ Ts) (ty0 : Nat → FieldType) (hty : ∀ k, k < N → parseFieldDescriptor (T k).2.2.1 = some (ty0 k)) (hnm : ∀ a, a < N → ∀ b, b < N → a ≠ b → (T a).2.1 ≠ (T b).2.1) (hown : s.vm.findClass own = some m.cls) (hK : va_K D cl tys s) {fs : List Value} (hat : va_at D cl (a, .inr (ci, fs)) H) (hA : A a) (hS0 : va_S A H0 H locs) (hc : cl[ci]? = some (C, T, N)) (k : Nat) (hk : k < N) (hlink : (Cond.fieldLinkNest own index C (T k).2.1 (T k).2.2.1 host).before args s = true) (hr : (T k).1 = C) (hfin : (T k).2.2.2 = false) {ty : FieldType} {v : Value} (hd : parseFieldDescriptor (T k).2.2.1 = some ty) (hn : narrow ty v = v) (hfit : fits ty v = true) (hl : k < fs.length) (hdg : decode cc pc = .ok (.putfield index, 3))
    (kk : ∀ (H1 : Heap) (locs1 : List Loc), va_at D cl (a, .inr (ci, fs.set k v)) H1 → H1.size = H.size → (∀ q, q ≠ a → H1[q]? = H[q]?) → va_S A H0 H1 locs1 → W p l e R s m args below meth c H1 locs1 cells slots Q (F0 m (pc + 3) ls rest)) : W p l e R s m args below meth c H locs cells slots Q (F0 m pc ls (v :: .ref a :: rest)) := by
  have hsame : ∀ x, s.fieldFound? (T k).1 (T k).2.1 (T k).2.2.1 = some x → s.fieldFound? C (T k).2.1 (T k).2.2.1 = some x := fun x hx => by rw [← hr]; exact hx
  have hap := va_apart (own := own) hts hin ty0 hty hnm hK hc
  obtain ⟨r, h1, cell, q1, q2, q3, q4⟩ := hat
  have hr9 : r = (C, T, N) := Option.some.inj (h1.symm.trans hc)
  subst hr9
  obtain ⟨hS, hfc, kC, hkC, hkind⟩ := hK.1 ci _ hc
  obtain ⟨cf, kf, fi, f, hi, hsl⟩ := hS k hk
  have hlay := hts _ (hin _ (u_in_lay hk))
  unfold u_lay at hlay
  rw [if_neg (by rw [hfin]; decide)] at hlay
  have hst := (u_facts hfc hkC (u_lays hts hin hk) hi).1
  have h6 := u_store hfc hkC hkind hlay hi hd hn hfit
  refine va_WputK hexec hb (f := f) hown hlink (hsame _ hi) hst (by rw [q2]; exact h6) q1 q3 (by rw [hsl]; exact k2_hasslot (q4 k hk)) rfl rfl hdg fun H' e1 e2 e3 => ?_
  rw [hsl] at e1 ⊢
  exact kk H' _ ⟨_, hc, t_OB.to (V := updV (vp_V fs) k v) ⟨_, e1, q2, q3, t_set q4 hap hk v⟩ (fun j _ => vp_updV_set hl v j)⟩ e2 e3 (hS0.put e2 e3 hA)
theorem q_putF (hexec : p.tables.exec = Jvm.exec) (hb : c.code = cc) {own C : String} {T : u_T} {N ci index : Nat} {Ts : List Cond} (hts : ∀ w ∈ Ts, w.before args s = true) (hin : ∀ w ∈ u_ws C T N, w ∈ Ts) (ty0 : Nat → FieldType) (hty : ∀ k, k < N → parseFieldDescriptor (T k).2.2.1 = some (ty0 k)) (hnm : ∀ a, a < N → ∀ b, b < N → a ≠ b → (T a).2.1 ≠ (T b).2.1) (hown : s.vm.findClass own = some m.cls) (hK : va_K D cl tys s) {fs : List Value} (hat : va_at D cl (a, .inr (ci, fs)) H) (hA : A a) (hS0 : va_S A H0 H locs) (hc : cl[ci]? = some (C, T, N)) (k : Nat) (hk : k < N) (hlink : (Cond.fieldLink own index C (T k).2.1 (T k).2.2.1).before args s = true) (hr : (T k).1 = C) (hfin : (T k).2.2.2 = true) (hin2 : meth.name = "<init>") (hdecl : (T k).1 = own) {ty : FieldType} {v : Value} (hd : parseFieldDescriptor (T k).2.2.1 = some ty) (hn : narrow ty v = v) (hfit : fits ty v = true) (hl : k < fs.length) (hdg : decode cc pc = .ok (.putfield index, 3))
    (kk : ∀ (H1 : Heap) (locs1 : List Loc), va_at D cl (a, .inr (ci, fs.set k v)) H1 → H1.size = H.size → (∀ q, q ≠ a → H1[q]? = H[q]?) → va_S A H0 H1 locs1 → W p l e R s m args below meth c H1 locs1 cells slots Q (F0 m (pc + 3) ls rest)) : W p l e R s m args below meth c H locs cells slots Q (F0 m pc ls (v :: .ref a :: rest)) := by
  have hsame : ∀ x, s.fieldFound? (T k).1 (T k).2.1 (T k).2.2.1 = some x → s.fieldFound? C (T k).2.1 (T k).2.2.1 = some x := fun x hx => by rw [← hr]; exact hx
  have hap := va_apart (own := own) hts hin ty0 hty hnm hK hc
  obtain ⟨r, h1, cell, q1, q2, q3, q4⟩ := hat
  have hr9 : r = (C, T, N) := Option.some.inj (h1.symm.trans hc)
  subst hr9
  obtain ⟨hS, hfc, kC, hkC, hkind⟩ := hK.1 ci _ hc
  obtain ⟨cf, kf, fi, f, hi, hsl⟩ := hS k hk
  have hlay := hts _ (hin _ (u_in_lay hk))
  unfold u_lay at hlay
  rw [if_pos hfin] at hlay
  have hst := (u_facts hfc hkC (u_lays hts hin hk) hi).1
  have hcf : m.cls = cf := by
    obtain ⟨_, _, c', _, _, _, -, -, hf', -, -, -, hown2, -⟩ := Cond.laysFinal_spec hlay
    have e1 : c' = cf := by have := hi.symm.trans hf'; simp at this; exact this.1.symm
    rw [hdecl] at hown2
    rw [← e1]; exact Option.some.inj (hown.symm.trans hown2)
  have h6 := u_fits hfc hkC hkind (Or.inr hlay) hi hd hn hfit
  refine W.putFinK hexec hb hown hlink (hsame _ hi) hst hcf hin2 (by rw [q2]; exact h6) q1 q3 (by rw [hsl]; exact k2_hasslot (q4 k hk)) rfl rfl hdg fun H' e1 e2 e3 => ?_
  rw [hsl] at e1 ⊢
  exact kk H' _ ⟨_, hc, t_OB.to (V := updV (vp_V fs) k v) ⟨_, e1, q2, q3, t_set q4 hap hk v⟩ (fun j _ => vp_updV_set hl v j)⟩ e2 e3 (hS0.put e2 e3 hA)
theorem q_new {c0 : Code} (hexec : p.tables.exec = Jvm.exec) (hb : c0.code = cc) {own C : String} {T : u_T} {N ci index : Nat} {Ts : List Cond} (hts : ∀ w ∈ Ts, w.before args s = true) (hin : ∀ w ∈ u_ws C T N, w ∈ Ts) (ty : Nat → FieldType) (hty : ∀ k, k < N → parseFieldDescriptor (T k).2.2.1 = some (ty k)) (hown : s.vm.findClass own = some m.cls) (hcl : (Cond.classLink own index C).before args s = true) (hinst : (Cond.instantiable C N).before args s = true) (hini : (Cond.initialized C).before args s = true)
    (hK : va_K D cl tys s) (hS : va_S A H0 H locs) (hc : cl[ci]? = some (C, T, N)) (fs : List Value) (hfs : ∀ j, j < N → defaultValue (ty j) = vp_V fs j) (hcells : cells + 1 ≤ R.cells) (hslots : slots + N ≤ R.slots) (hdg : decode cc pc = .ok (.new index, 3))
    (kk : ∀ (H1 : Heap), va_at D cl (H.size, .inr (ci, fs)) H1 → H1.size = H.size + 1 → (∀ q, q < H.size → H1[q]? = H[q]?) → va_S A H0 H1 locs →
      W p l e R s m args below meth c0 H1 locs (cells + 1) (slots + N) Q (F0 m (pc + 3) ls (.ref H.size :: rest))) : W p l e R s m args below meth c0 H locs cells slots Q (F0 m pc ls rest) := by
  have hKn := hK.1 ci _ hc
  refine W.newcK hexec hb hown hcl hinst hini rfl hdg hcells hslots hKn.2.1 rfl fun H1 kC hkC e1 z1 o1 => ?_
  exact kk H1 ⟨_, hc, (u_born ty hts hin hKn hkC e1 hty).to hfs⟩ z1 o1 ⟨Nat.le_trans hS.1 (by omega), fun x h1 h2 => (o1 x (Nat.lt_of_lt_of_le h1 hS.1)).trans (hS.2.1 x h1 h2), hS.2.2⟩
theorem q_iast (hexec : p.tables.exec = Jvm.exec) (hb : c.code = cc) (hK : va_K D cl tys s) {cA : ClassId} {n : Nat} {f : Nat → Int32} (hat : va_at D cl (a, .inl (cA, n, .inl f)) H) (hA : A a) (hS : va_S A H0 H locs) (t0 : Nat) (ht : tys[t0]? = some (cA, .int)) {i : Int32} {x : Int32} (hin : vp_in i n) (hdg : decode cc pc = .ok (.iastore, 1))
    (kk : ∀ (H1 : Heap) (locs1 : List Loc), va_at D cl (a, .inl (cA, n, .inl (upd f i.toNatClampNeg x))) H1 → H1.size = H.size → (∀ q, q ≠ a → H1[q]? = H[q]?) → va_S A H0 H1 locs1 → W p l e R s m args below meth c H1 locs1 cells slots Q (F0 m (pc + 1) ls rest)) : W p l e R s m args below meth c H locs cells slots Q (F0 m pc ls (.int x :: .int i :: .ref a :: rest)) := by
  refine W.iast hexec hb hat ((hK.2 t0 _ ht).1 n (fun j => .int (f j))) (fun q => by cases q) (by show ¬ (i < 0 ∨ (arrV _ _ _).slots.size ≤ _); rw [arrV_size]; exact hin) rfl rfl hdg fun H1 e z oq => ?_
  refine kk H1 _ ?_ z oq (hS.put z oq hA)
  show H1[a]? = some (vp_cell _ _)
  rw [e]
  rw [vp_cell_i, vp_cell_i, arrV_store]
  congr 2
  funext q
  by_cases hq : q = i.toNatClampNeg
  · subst hq
    simp [updV, upd]
    try rfl
  · simp [updV, upd, hq]
theorem q_cast (hexec : p.tables.exec = Jvm.exec) (hb : c.code = cc) (hK : va_K D cl tys s) {cA : ClassId} {n : Nat} {f : Nat → Int32} (hat : va_at D cl (a, .inl (cA, n, .inl f)) H) (hA : A a) (hS : va_S A H0 H locs) (t0 : Nat) (ht : tys[t0]? = some (cA, .char)) {i : Int32} {x : Int32} (hin : vp_in i n) (hdg : decode cc pc = .ok (.castore, 1))
    (kk : ∀ (H1 : Heap) (locs1 : List Loc), va_at D cl (a, .inl (cA, n, .inl (upd f i.toNatClampNeg (vp_nar .char x)))) H1 → H1.size = H.size → (∀ q, q ≠ a → H1[q]? = H[q]?) → va_S A H0 H1 locs1 → W p l e R s m args below meth c H1 locs1 cells slots Q (F0 m (pc + 1) ls rest)) : W p l e R s m args below meth c H locs cells slots Q (F0 m pc ls (.int x :: .int i :: .ref a :: rest)) := by
  refine W.cast hexec hb hat ((hK.2 t0 _ ht).1 n (fun j => .int (f j))) (fun q => by cases q) (by show ¬ (i < 0 ∨ (arrV _ _ _).slots.size ≤ _); rw [arrV_size]; exact hin) rfl rfl hdg fun H1 e z oq => ?_
  refine kk H1 _ ?_ z oq (hS.put z oq hA)
  show H1[a]? = some (vp_cell _ _)
  rw [e]
  rw [vp_cell_i, vp_cell_i, arrV_store]
  congr 2
  funext q
  by_cases hq : q = i.toNatClampNeg
  · subst hq
    simp [updV, upd, vp_nar]
    try rfl
  · simp [updV, upd, hq]
theorem q_zast (hexec : p.tables.exec = Jvm.exec) (hb : c.code = cc) (hK : va_K D cl tys s) {cA : ClassId} {n : Nat} {f : Nat → Int32} (hat : va_at D cl (a, .inl (cA, n, .inl f)) H) (hA : A a) (hS : va_S A H0 H locs) (t0 : Nat) (ht : tys[t0]? = some (cA, .boolean)) {i : Int32} {x : Int32} (hin : vp_in i n) (hdg : decode cc pc = .ok (.bastore, 1))
    (kk : ∀ (H1 : Heap) (locs1 : List Loc), va_at D cl (a, .inl (cA, n, .inl (upd f i.toNatClampNeg (vp_nar .boolean x)))) H1 → H1.size = H.size → (∀ q, q ≠ a → H1[q]? = H[q]?) → va_S A H0 H1 locs1 → W p l e R s m args below meth c H1 locs1 cells slots Q (F0 m (pc + 1) ls rest)) : W p l e R s m args below meth c H locs cells slots Q (F0 m pc ls (.int x :: .int i :: .ref a :: rest)) := by
  refine W.zast hexec hb hat ((hK.2 t0 _ ht).1 n (fun j => .int (f j))) (fun q => by cases q) (by show ¬ (i < 0 ∨ (arrV _ _ _).slots.size ≤ _); rw [arrV_size]; exact hin) rfl rfl hdg fun H1 e z oq => ?_
  refine kk H1 _ ?_ z oq (hS.put z oq hA)
  show H1[a]? = some (vp_cell _ _)
  rw [e]
  rw [vp_cell_i, vp_cell_i, arrV_store]
  congr 2
  funext q
  by_cases hq : q = i.toNatClampNeg
  · subst hq
    simp [updV, upd, vp_nar]
    try rfl
  · simp [updV, upd, hq]
theorem q_last (hexec : p.tables.exec = Jvm.exec) (hb : c.code = cc) (hK : va_K D cl tys s) {cA : ClassId} {n : Nat} {f : Nat → Int64} (hat : va_at D cl (a, .inl (cA, n, .inr (.inl f))) H) (hA : A a) (hS : va_S A H0 H locs) (t0 : Nat) (ht : tys[t0]? = some (cA, .long)) {i : Int32} {x : Int64} (hin : vp_in i n) (hdg : decode cc pc = .ok (.lastore, 1))
    (kk : ∀ (H1 : Heap) (locs1 : List Loc), va_at D cl (a, .inl (cA, n, .inr (.inl (vp_updL f i.toNatClampNeg x)))) H1 → H1.size = H.size → (∀ q, q ≠ a → H1[q]? = H[q]?) → va_S A H0 H1 locs1 → W p l e R s m args below meth c H1 locs1 cells slots Q (F0 m (pc + 1) ls rest)) : W p l e R s m args below meth c H locs cells slots Q (F0 m pc ls (.long x :: .int i :: .ref a :: rest)) := by
  refine W.last hexec hb hat ((hK.2 t0 _ ht).1 n (fun j => .long (f j))) (fun q => by cases q) (by show ¬ (i < 0 ∨ (arrV _ _ _).slots.size ≤ _); rw [arrV_size]; exact hin) rfl rfl hdg fun H1 e z oq => ?_
  refine kk H1 _ ?_ z oq (hS.put z oq hA)
  show H1[a]? = some (vp_cell _ _)
  rw [e]
  rw [vp_cell_l, vp_cell_l, arrV_store]
  congr 2
  funext q
  by_cases hq : q = i.toNatClampNeg
  · subst hq
    simp [updV, vp_updL]
    try rfl
  · simp [updV, vp_updL, hq]
theorem q_dast (hexec : p.tables.exec = Jvm.exec) (hb : c.code = cc) (hK : va_K D cl tys s) {cA : ClassId} {n : Nat} {f : Nat → UInt64} (hat : va_at D cl (a, .inl (cA, n, .inr (.inr (.inr (.inl f))))) H) (hA : A a) (hS : va_S A H0 H locs) (t0 : Nat) (ht : tys[t0]? = some (cA, .double)) {i : Int32} {x : UInt64} (hin : vp_in i n) (hdg : decode cc pc = .ok (.dastore, 1))
    (kk : ∀ (H1 : Heap) (locs1 : List Loc), va_at D cl (a, .inl (cA, n, .inr (.inr (.inr (.inl (vf_upd f i.toNatClampNeg x)))))) H1 → H1.size = H.size → (∀ q, q ≠ a → H1[q]? = H[q]?) → va_S A H0 H1 locs1 → W p l e R s m args below meth c H1 locs1 cells slots Q (F0 m (pc + 1) ls rest)) : W p l e R s m args below meth c H locs cells slots Q (F0 m pc ls (.double x :: .int i :: .ref a :: rest)) := by
  refine W.dast hexec hb hat ((hK.2 t0 _ ht).1 n (fun j => .double (f j))) (fun q => by cases q) (by show ¬ (i < 0 ∨ (arrV _ _ _).slots.size ≤ _); rw [arrV_size]; exact hin) rfl rfl hdg fun H1 e z oq => ?_
  refine kk H1 _ ?_ z oq (hS.put z oq hA)
  show H1[a]? = some (vp_cell _ _)
  rw [e]
  rw [vp_cell_d, vp_cell_d, arrV_store]
  congr 2
  funext q
  by_cases hq : q = i.toNatClampNeg
  · subst hq
    simp [updV, vf_upd]
    try rfl
  · simp [updV, vf_upd, hq]
theorem q_newa (hexec : p.tables.exec = Jvm.exec) (hb : c.code = cc) {atype : ArrayType} (harr : (Cond.arrayClass (newarray.typeOf atype)).before args s = true) {ty : FieldType} (hty : newarray.typeOf atype = ty) {cA0 : ClassId} (hK : va_K D cl tys s) (t0 : Nat) (ht : tys[t0]? = some (cA0, ty)) (hprim : ∀ C, ty ≠ .object C) (hS : va_S A H0 H locs)
    {n : Int32} {N' : Nat} (a0 : vp_A) (ha : ∀ cA : ClassId, vp_cell cA a0 = arrV cA N' (fun _ => defaultValue ty)) (hn : ¬ n < 0) (hN : n.toNatClampNeg = N') (hbytes : N' * componentBytes ty ≤ 536870912) (hcells : cells + 1 ≤ R.cells) (hslots : slots + N' ≤ R.slots) (hdg : decode cc pc = .ok (.newarray atype, 2))
    (kk : ∀ (H1 : Heap), va_at D cl (H.size, .inl (cA0, a0)) H1 → H1.size = H.size + 1 → (∀ q, q < H.size → H1[q]? = H[q]?) → va_S A H0 H1 locs → W p l e R s m args below meth c H1 locs (cells + 1) (slots + N') Q (F0 m (pc + 2) ls (.ref H.size :: rest))) : W p l e R s m args below meth c H locs cells slots Q (F0 m pc ls (.int n :: rest)) := by
  subst hty
  refine va_newaK hexec hb harr rfl hdg rfl hn hN hbytes hcells hslots rfl fun H1 cA e1 z1 o1 hAr hNm => ?_
  have hcA : cA = cA0 := by
    have h2 := (hK.2 t0 _ ht).2
    have h3 : s.vm.findClass ("[" ++ (newarray.typeOf atype).toString) = some cA0 := by
      cases atype <;> exact h2
    exact Option.some.inj (hNm.symm.trans h3)
  subst hcA
  refine kk H1 ?_ z1 o1 ⟨Nat.le_trans hS.1 (by omega), fun x h1 h2 => (o1 x (Nat.lt_of_lt_of_le h1 hS.1)).trans (hS.2.1 x h1 h2), hS.2.2⟩
  show H1[H.size]? = some (vp_cell _ _)
  rw [ha]
  exact e1
theorem q_locs {L : List Loc} (hS : va_S A0 H0 H locs) (hf : ∀ q, free q → A0 q) (hL : ∀ q ∈ L, free q.base) {H1 : Heap} (h1 : H.size ≤ H1.size) (h2 : ∀ q, q < H.size → ¬ A0 q → H1[q]? = H[q]?) : va_S A0 H0 H1 (locs ++ L) :=
  ⟨Nat.le_trans hS.1 h1, fun q g1 g2 => (h2 q (Nat.lt_of_lt_of_le g1 hS.1) g2).trans (hS.2.1 q g1 g2), fun q hq => (List.mem_append.mp hq).elim (hS.2.2 q) (fun h => hf _ (hL q h))⟩
theorem q_v {v : Value} (hr : va_Run p l e R s m args below meth c H locs cells slots 0 0 (F0 m pc ls st0) rest (qPV (some v) av) free) (hS : va_S A0 H0 H locs) (hf : ∀ q, free q → A0 q)
    (kk : ∀ (locs1 : List Loc), va_S A0 H0 H locs1 → W p l e R s m args below meth c H locs1 cells slots Q (F0 m (pc + 3) ls (v :: rest))) : W p l e R s m args below meth c H locs cells slots Q (F0 m pc ls st0) := by
  intro T hT X
  obtain ⟨v', st₀, t, T', L, h0, X', hL, e1, e2, ⟨hv, hh⟩, st⟩ := hr T hT X
  cases hv
  obtain ⟨t2, a1, b1⟩ := kk (locs ++ L) (q_locs hS hf hL (Nat.le_refl _) (fun _ _ _ => rfl)) T' (by rw [e1, hh, h0]) X'
  exact ⟨t2, st t2 a1, b1⟩
theorem q_n (hr : va_Run p l e R s m args below meth c H locs cells slots 0 0 (F0 m pc ls st0) rest (qPV none av) free) (hS : va_S A0 H0 H locs) (hf : ∀ q, free q → A0 q)
    (kk : ∀ (locs1 : List Loc), va_S A0 H0 H locs1 → W p l e R s m args below meth c H locs1 cells slots Q (F0 m (pc + 3) ls rest)) : W p l e R s m args below meth c H locs cells slots Q (F0 m pc ls st0) := by
  intro T hT X
  obtain ⟨v', st₀, t, T', L, h0, X', hL, e1, e2, ⟨hv, hh⟩, st⟩ := hr T hT X
  cases hv
  obtain ⟨t2, a1, b1⟩ := kk (locs ++ L) (q_locs hS hf hL (Nat.le_refl _) (fun _ _ _ => rfl)) T' (by rw [e1, hh, h0]) X'
  exact ⟨t2, st t2 a1, b1⟩
theorem q_wv {v : Value} {P : Heap → Prop} (hr : va_Run p l e R s m args below meth c H locs cells slots mc ms (F0 m pc ls st0) rest (qWV (some v) P A1 av) free) (hS : va_S A0 H0 H locs) (hA : ∀ q, A1 q → A0 q) (hf : ∀ q, free q → A0 q)
    (kk : ∀ (H1 : Heap) (locs1 : List Loc), P H1 → H.size ≤ H1.size → (∀ q, q < H.size → ¬ A1 q → H1[q]? = H[q]?) → va_S A0 H0 H1 locs1 → W p l e R s m args below meth c H1 locs1 (cells + mc) (slots + ms) Q (F0 m (pc + 3) ls (v :: rest))) : W p l e R s m args below meth c H locs cells slots Q (F0 m pc ls st0) := by
  intro T hT X
  obtain ⟨v', st₀, t, T', L, h0, X', hL, e1, e2, ⟨hv, hp, hz, hk⟩, st⟩ := hr T hT X
  cases hv
  rw [h0] at hz hk
  obtain ⟨t2, a1, b1⟩ := kk t.heap (locs ++ L) hp hz hk (q_locs hS hf hL hz (fun q h1 h2 => hk q h1 (fun z => h2 (hA q z)))) T' e1 X'
  exact ⟨t2, st t2 a1, b1⟩
theorem q_wn {P : Heap → Prop} (hr : va_Run p l e R s m args below meth c H locs cells slots mc ms (F0 m pc ls st0) rest (qWV none P A1 av) free) (hS : va_S A0 H0 H locs) (hA : ∀ q, A1 q → A0 q) (hf : ∀ q, free q → A0 q)
    (kk : ∀ (H1 : Heap) (locs1 : List Loc), P H1 → H.size ≤ H1.size → (∀ q, q < H.size → ¬ A1 q → H1[q]? = H[q]?) → va_S A0 H0 H1 locs1 → W p l e R s m args below meth c H1 locs1 (cells + mc) (slots + ms) Q (F0 m (pc + 3) ls (rest))) : W p l e R s m args below meth c H locs cells slots Q (F0 m pc ls st0) := by
  intro T hT X
  obtain ⟨v', st₀, t, T', L, h0, X', hL, e1, e2, ⟨hv, hp, hz, hk⟩, st⟩ := hr T hT X
  cases hv
  rw [h0] at hz hk
  obtain ⟨t2, a1, b1⟩ := kk t.heap (locs ++ L) hp hz hk (q_locs hS hf hL hz (fun q h1 h2 => hk q h1 (fun z => h2 (hA q z)))) T' e1 X'
  exact ⟨t2, st t2 a1, b1⟩
theorem q_wx {P : Nat → Heap → Prop} (hr : va_Run p l e R s m args below meth c H locs cells slots mc ms (F0 m pc ls st0) rest (qWX P A1 av) free) (hS : va_S A0 H0 H locs) (hA : ∀ q, A1 q → A0 q) (hf : ∀ q, free q → A0 q)
    (kk : ∀ (x : Nat) (H1 : Heap) (locs1 : List Loc), P x H1 → H.size ≤ H1.size → (∀ q, q < H.size → ¬ A1 q → H1[q]? = H[q]?) → va_S A0 H0 H1 locs1 → W p l e R s m args below meth c H1 locs1 (cells + mc) (slots + ms) Q (F0 m (pc + 3) ls (.ref x :: rest))) : W p l e R s m args below meth c H locs cells slots Q (F0 m pc ls st0) := by
  intro T hT X
  obtain ⟨v', st₀, t, T', L, h0, X', hL, e1, e2, ⟨x, hv, hp, hz, hk⟩, st⟩ := hr T hT X
  cases hv
  rw [h0] at hz hk
  obtain ⟨t2, a1, b1⟩ := kk x t.heap (locs ++ L) hp hz hk (q_locs hS hf hL hz (fun q h1 h2 => hk q h1 (fun z => h2 (hA q z)))) T' e1 X'
  exact ⟨t2, st t2 a1, b1⟩
theorem q_eq (hexec : p.tables.exec = Jvm.exec) (hb : c.code = cc) {a b : Nat} (ha : a < 2 ^ 31) (hb2 : b < 2 ^ 31) {off : Int} {tgt : Nat} (hdg : decode cc pc = .ok (.if_icmp .eq off, 3)) (ht : (pc : Int) + off = (tgt : Int))
    (kt : a = b → W p l e R s m args below meth c H locs cells slots Q (F0 m tgt ls rest)) (kf : a ≠ b → W p l e R s m args below meth c H locs cells slots Q (F0 m (pc + 3) ls rest)) : W p l e R s m args below meth c H locs cells slots Q (F0 m pc ls (.int (nI b) :: .int (nI a) :: rest)) :=
  lv_icmp_eq hexec hb hdg ht (fun z => kt ((nI_eq ha hb2).mp z)) (fun z => kf (fun h => z ((nI_eq ha hb2).mpr h)))
theorem q_eq0 (hexec : p.tables.exec = Jvm.exec) (hb : c.code = cc) {a : Nat} (ha : a < 2 ^ 31) {off : Int} {tgt : Nat} (hdg : decode cc pc = .ok (.ifCond .eq off, 3)) (ht : (pc : Int) + off = (tgt : Int))
    (kt : a = 0 → W p l e R s m args below meth c H locs cells slots Q (F0 m tgt ls rest)) (kf : a ≠ 0 → W p l e R s m args below meth c H locs cells slots Q (F0 m (pc + 3) ls rest)) : W p l e R s m args below meth c H locs cells slots Q (F0 m pc ls (.int (nI a) :: rest)) :=
  lv_if_eq hexec hb hdg ht (fun z => kt ((nI_eq ha (by decide)).mp (z.trans nI_0.symm))) (fun z => kf (fun h => z (by rw [h]; exact nI_0)))
theorem q_ne (hexec : p.tables.exec = Jvm.exec) (hb : c.code = cc) {a b : Nat} (ha : a < 2 ^ 31) (hb2 : b < 2 ^ 31) {off : Int} {tgt : Nat} (hdg : decode cc pc = .ok (.if_icmp .ne off, 3)) (ht : (pc : Int) + off = (tgt : Int))
    (kt : a ≠ b → W p l e R s m args below meth c H locs cells slots Q (F0 m tgt ls rest)) (kf : a = b → W p l e R s m args below meth c H locs cells slots Q (F0 m (pc + 3) ls rest)) : W p l e R s m args below meth c H locs cells slots Q (F0 m pc ls (.int (nI b) :: .int (nI a) :: rest)) :=
  lv_icmp_ne hexec hb hdg ht (fun z => kt (fun h => z ((nI_eq ha hb2).mpr h))) (fun z => kf ((nI_eq ha hb2).mp z))
theorem q_ne0 (hexec : p.tables.exec = Jvm.exec) (hb : c.code = cc) {a : Nat} (ha : a < 2 ^ 31) {off : Int} {tgt : Nat} (hdg : decode cc pc = .ok (.ifCond .ne off, 3)) (ht : (pc : Int) + off = (tgt : Int))
    (kt : a ≠ 0 → W p l e R s m args below meth c H locs cells slots Q (F0 m tgt ls rest)) (kf : a = 0 → W p l e R s m args below meth c H locs cells slots Q (F0 m (pc + 3) ls rest)) : W p l e R s m args below meth c H locs cells slots Q (F0 m pc ls (.int (nI a) :: rest)) :=
  lv_if_ne hexec hb hdg ht (fun z => kt (fun h => z (by rw [h]; exact nI_0))) (fun z => kf ((nI_eq ha (by decide)).mp (z.trans nI_0.symm)))
theorem q_lt (hexec : p.tables.exec = Jvm.exec) (hb : c.code = cc) {a b : Nat} (ha : a < 2 ^ 31) (hb2 : b < 2 ^ 31) {off : Int} {tgt : Nat} (hdg : decode cc pc = .ok (.if_icmp .lt off, 3)) (ht : (pc : Int) + off = (tgt : Int))
    (kt : a < b → W p l e R s m args below meth c H locs cells slots Q (F0 m tgt ls rest)) (kf : b ≤ a → W p l e R s m args below meth c H locs cells slots Q (F0 m (pc + 3) ls rest)) : W p l e R s m args below meth c H locs cells slots Q (F0 m pc ls (.int (nI b) :: .int (nI a) :: rest)) :=
  lv_icmp_lt hexec hb hdg ht (fun z => kt ((nI_ltI ha hb2).mp z)) (fun z => kf (Nat.not_lt.mp fun h => z ((nI_ltI ha hb2).mpr h)))
theorem q_lt0 (hexec : p.tables.exec = Jvm.exec) (hb : c.code = cc) {a : Nat} (ha : a < 2 ^ 31) {off : Int} {tgt : Nat} (hdg : decode cc pc = .ok (.ifCond .lt off, 3)) (ht : (pc : Int) + off = (tgt : Int))
    (kt : False → W p l e R s m args below meth c H locs cells slots Q (F0 m tgt ls rest)) (kf : True → W p l e R s m args below meth c H locs cells slots Q (F0 m (pc + 3) ls rest)) : W p l e R s m args below meth c H locs cells slots Q (F0 m pc ls (.int (nI a) :: rest)) :=
  lv_if_lt hexec hb hdg ht (fun z => kt (nI_pos ha z)) (fun z => kf (trivial))
theorem q_ge (hexec : p.tables.exec = Jvm.exec) (hb : c.code = cc) {a b : Nat} (ha : a < 2 ^ 31) (hb2 : b < 2 ^ 31) {off : Int} {tgt : Nat} (hdg : decode cc pc = .ok (.if_icmp .ge off, 3)) (ht : (pc : Int) + off = (tgt : Int))
    (kt : b ≤ a → W p l e R s m args below meth c H locs cells slots Q (F0 m tgt ls rest)) (kf : a < b → W p l e R s m args below meth c H locs cells slots Q (F0 m (pc + 3) ls rest)) : W p l e R s m args below meth c H locs cells slots Q (F0 m pc ls (.int (nI b) :: .int (nI a) :: rest)) :=
  lv_icmp_ge hexec hb hdg ht (fun z => kt ((nI_leI hb2 ha).mp z)) (fun z => kf (Nat.not_le.mp fun h => z ((nI_leI hb2 ha).mpr h)))
theorem q_ge0 (hexec : p.tables.exec = Jvm.exec) (hb : c.code = cc) {a : Nat} (ha : a < 2 ^ 31) {off : Int} {tgt : Nat} (hdg : decode cc pc = .ok (.ifCond .ge off, 3)) (ht : (pc : Int) + off = (tgt : Int))
    (kt : True → W p l e R s m args below meth c H locs cells slots Q (F0 m tgt ls rest)) (kf : False → W p l e R s m args below meth c H locs cells slots Q (F0 m (pc + 3) ls rest)) : W p l e R s m args below meth c H locs cells slots Q (F0 m pc ls (.int (nI a) :: rest)) :=
  lv_if_ge hexec hb hdg ht (fun z => kt (trivial)) (fun z => kf (z (nI_pos' ha)))
theorem q_gt (hexec : p.tables.exec = Jvm.exec) (hb : c.code = cc) {a b : Nat} (ha : a < 2 ^ 31) (hb2 : b < 2 ^ 31) {off : Int} {tgt : Nat} (hdg : decode cc pc = .ok (.if_icmp .gt off, 3)) (ht : (pc : Int) + off = (tgt : Int))
    (kt : b < a → W p l e R s m args below meth c H locs cells slots Q (F0 m tgt ls rest)) (kf : a ≤ b → W p l e R s m args below meth c H locs cells slots Q (F0 m (pc + 3) ls rest)) : W p l e R s m args below meth c H locs cells slots Q (F0 m pc ls (.int (nI b) :: .int (nI a) :: rest)) :=
  lv_icmp_gt hexec hb hdg ht (fun z => kt ((nI_ltI hb2 ha).mp z)) (fun z => kf (Nat.not_lt.mp fun h => z ((nI_ltI hb2 ha).mpr h)))
theorem q_gt0 (hexec : p.tables.exec = Jvm.exec) (hb : c.code = cc) {a : Nat} (ha : a < 2 ^ 31) {off : Int} {tgt : Nat} (hdg : decode cc pc = .ok (.ifCond .gt off, 3)) (ht : (pc : Int) + off = (tgt : Int))
    (kt : 0 < a → W p l e R s m args below meth c H locs cells slots Q (F0 m tgt ls rest)) (kf : a = 0 → W p l e R s m args below meth c H locs cells slots Q (F0 m (pc + 3) ls rest)) : W p l e R s m args below meth c H locs cells slots Q (F0 m pc ls (.int (nI a) :: rest)) :=
  lv_if_gt hexec hb hdg ht (fun z => kt (Nat.pos_of_ne_zero fun h => by rw [h, nI_0] at z; exact absurd z (by decide))) (fun z => kf (Classical.byContradiction fun h => z (by rw [← nI_0]; exact nI_lt (Nat.pos_of_ne_zero h) ha)))
theorem q_le (hexec : p.tables.exec = Jvm.exec) (hb : c.code = cc) {a b : Nat} (ha : a < 2 ^ 31) (hb2 : b < 2 ^ 31) {off : Int} {tgt : Nat} (hdg : decode cc pc = .ok (.if_icmp .le off, 3)) (ht : (pc : Int) + off = (tgt : Int))
    (kt : a ≤ b → W p l e R s m args below meth c H locs cells slots Q (F0 m tgt ls rest)) (kf : b < a → W p l e R s m args below meth c H locs cells slots Q (F0 m (pc + 3) ls rest)) : W p l e R s m args below meth c H locs cells slots Q (F0 m pc ls (.int (nI b) :: .int (nI a) :: rest)) :=
  lv_icmp_le hexec hb hdg ht (fun z => kt ((nI_leI ha hb2).mp z)) (fun z => kf (Nat.not_le.mp fun h => z ((nI_leI ha hb2).mpr h)))
theorem q_le0 (hexec : p.tables.exec = Jvm.exec) (hb : c.code = cc) {a : Nat} (ha : a < 2 ^ 31) {off : Int} {tgt : Nat} (hdg : decode cc pc = .ok (.ifCond .le off, 3)) (ht : (pc : Int) + off = (tgt : Int))
    (kt : a = 0 → W p l e R s m args below meth c H locs cells slots Q (F0 m tgt ls rest)) (kf : 0 < a → W p l e R s m args below meth c H locs cells slots Q (F0 m (pc + 3) ls rest)) : W p l e R s m args below meth c H locs cells slots Q (F0 m pc ls (.int (nI a) :: rest)) :=
  lv_if_le hexec hb hdg ht (fun z => kt (Classical.byContradiction fun h => nI_nle (Nat.pos_of_ne_zero h) ha z)) (fun z => kf (Nat.pos_of_ne_zero fun h => z (by rw [h, nI_0]; decide)))
theorem q_up (N : Nat) (I : Nat → Heap → List Loc → Array Slot → Prop) (ex : ∀ (H : Heap) (locs : List Loc) (ls : Array Slot), I N H locs ls → W p l e R s m args below meth c H locs cells slots Q (F0 m pc ls []))
    (bd : ∀ (i : Nat) (H : Heap) (locs : List Loc) (ls : Array Slot), i < N → I i H locs ls → (∀ (H' : Heap) (locs' : List Loc) (ls' : Array Slot), I (i + 1) H' locs' ls' → W p l e R s m args below meth c H' locs' cells slots Q (F0 m pc ls' [])) → W p l e R s m args below meth c H locs cells slots Q (F0 m pc ls [])) {i0 : Nat} (h0 : i0 ≤ N) (hI : I i0 H locs ls) : W p l e R s m args below meth c H locs cells slots Q (F0 m pc ls []) := by
  obtain ⟨n, hn⟩ : ∃ n, i0 + n = N := ⟨N - i0, by omega⟩
  induction n generalizing i0 H locs ls with
  | zero =>
    have : i0 = N := by omega
    subst this
    exact ex H locs ls hI
  | succ n ih => exact bd i0 H locs ls (by omega) hI (fun H' locs' ls' h' => ih (by omega) h' (by omega))
theorem q_dn (I : Nat → Heap → List Loc → Array Slot → Prop) (ex : ∀ (H : Heap) (locs : List Loc) (ls : Array Slot), I 0 H locs ls → W p l e R s m args below meth c H locs cells slots Q (F0 m pc ls []))
    (bd : ∀ (i : Nat) (H : Heap) (locs : List Loc) (ls : Array Slot), I (i + 1) H locs ls → (∀ (H' : Heap) (locs' : List Loc) (ls' : Array Slot), I i H' locs' ls' → W p l e R s m args below meth c H' locs' cells slots Q (F0 m pc ls' [])) → W p l e R s m args below meth c H locs cells slots Q (F0 m pc ls [])) (i0 : Nat) (hI : I i0 H locs ls) : W p l e R s m args below meth c H locs cells slots Q (F0 m pc ls []) := by
  induction i0 generalizing H locs ls with
  | zero => exact ex H locs ls hI
  | succ n ih => exact bd n H locs ls hI (fun H' locs' ls' h' => ih h')
theorem q_upA (N dc ds : Nat) (I : Nat → Heap → List Loc → Array Slot → Prop) (c0 s0 : Nat) (ex : ∀ (H : Heap) (locs : List Loc) (ls : Array Slot), I N H locs ls → W p l e R s m args below meth c H locs (c0 + N * dc) (s0 + N * ds) Q (F0 m pc ls []))
    (bd : ∀ (i : Nat) (H : Heap) (locs : List Loc) (ls : Array Slot), i < N → I i H locs ls → (∀ (H' : Heap) (locs' : List Loc) (ls' : Array Slot), I (i + 1) H' locs' ls' → W p l e R s m args below meth c H' locs' (c0 + (i + 1) * dc) (s0 + (i + 1) * ds) Q (F0 m pc ls' [])) → W p l e R s m args below meth c H locs (c0 + i * dc) (s0 + i * ds) Q (F0 m pc ls [])) {i0 : Nat} (h0 : i0 ≤ N) (hI : I i0 H locs ls) : W p l e R s m args below meth c H locs (c0 + i0 * dc) (s0 + i0 * ds) Q (F0 m pc ls []) := by
  obtain ⟨n, hn⟩ : ∃ n, i0 + n = N := ⟨N - i0, by omega⟩
  induction n generalizing i0 H locs ls with
  | zero =>
    have : i0 = N := by omega
    subst this
    exact ex H locs ls hI
  | succ n ih => exact bd i0 H locs ls (by omega) hI (fun H' locs' ls' h' => ih (by omega) h' (by omega))
theorem q_ms {X : Type} (μ : X → Nat) (I : X → Heap → List Loc → Array Slot → Prop) (bd : ∀ (x : X) (H : Heap) (locs : List Loc) (ls : Array Slot), I x H locs ls → (∀ (x' : X) (H' : Heap) (locs' : List Loc) (ls' : Array Slot), μ x' < μ x → I x' H' locs' ls' → W p l e R s m args below meth c H' locs' cells slots Q (F0 m pc ls' [])) → W p l e R s m args below meth c H locs cells slots Q (F0 m pc ls [])) (x0 : X) (hI : I x0 H locs ls) : W p l e R s m args below meth c H locs cells slots Q (F0 m pc ls []) := by
  obtain ⟨n, hn⟩ : ∃ n, μ x0 < n := ⟨μ x0 + 1, by omega⟩
  induction n generalizing x0 H locs ls with
  | zero => exact absurd hn (by omega)
  | succ n ih => exact bd x0 H locs ls hI (fun x' H' locs' ls' hx h' => ih x' h' (by omega))
end QR
theorem qm_RX7_345 {G : QG} {U : State} (h : qCX G U) : va_Nw (.methodLinkNest RX7 345 yX0_counts "LogWeave") U := h.N _ (List.mem_of_getElem? (i := 0) rfl)
theorem qm_RX0_35 {G : QG} {U : State} (h : qCX G U) : va_Nw (.methodLinkNest RX0 35 yX3_cameWithin "LogWeave") U := h.N _ (List.mem_of_getElem? (i := 1) rfl)
theorem qm_RX0_39 {G : QG} {U : State} (h : qCX G U) : va_Nw (.methodLinkNest RX0 39 yX1_takes "LogWeave") U := h.N _ (List.mem_of_getElem? (i := 2) rfl)
theorem qm_RX1_34 {G : QG} {U : State} (h : qCX G U) : va_Nw (.methodLinkNest RX1 34 yX6_at "LogWeave") U := h.N _ (List.mem_of_getElem? (i := 3) rfl)
theorem qm_RX7_239 {G : QG} {U : State} (h : qCX G U) : va_Nw (.methodLinkNest RX7 239 yX2_hasLine "LogWeave") U := h.N _ (List.mem_of_getElem? (i := 4) rfl)
theorem qm_RX7_313 {G : QG} {U : State} (h : qCX G U) : va_Nw (.methodLinkNest RX7 313 yX4_suits "LogWeave") U := h.N _ (List.mem_of_getElem? (i := 5) rfl)
theorem qm_RX4_22 {G : QG} {U : State} (h : qCX G U) : va_Nw (.methodLinkNest RX4 22 yX6_at "LogWeave") U := h.N _ (List.mem_of_getElem? (i := 6) rfl)
theorem qm_RX7_64 {G : QG} {U : State} (h : qCX G U) : va_Nw (.methodLinkNest RX7 64 yX6_init "LogWeave") U := h.N _ (List.mem_of_getElem? (i := 15) rfl)
theorem qf_RX7_317 {G : QG} {U : State} (h : qCX G U) : va_Nw (.fieldLinkNest RX7 317 RX6 "first" "I" "LogWeave") U := h.N _ (List.mem_of_getElem? (i := 16) rfl)
theorem qf_RX7_320 {G : QG} {U : State} (h : qCX G U) : va_Nw (.fieldLinkNest RX7 320 RX6 "second" "I" "LogWeave") U := h.N _ (List.mem_of_getElem? (i := 17) rfl)
theorem qf_RX7_323 {G : QG} {U : State} (h : qCX G U) : va_Nw (.fieldLinkNest RX7 323 RX6 "third" "I" "LogWeave") U := h.N _ (List.mem_of_getElem? (i := 18) rfl)
theorem qm_RX7_326 {G : QG} {U : State} (h : qCX G U) : va_Nw (.methodLinkNest RX7 326 yX4_init "LogWeave") U := h.N _ (List.mem_of_getElem? (i := 19) rfl)
theorem qf_RX7_111 {G : QG} {U : State} (h : qCX G U) : va_Nw (.fieldLinkNest RX7 111 RX4 "number" "I" "LogWeave") U := h.N _ (List.mem_of_getElem? (i := 20) rfl)
theorem qf_RX7_124 {G : QG} {U : State} (h : qCX G U) : va_Nw (.fieldLinkNest RX7 124 RX4 "source" "I" "LogWeave") U := h.N _ (List.mem_of_getElem? (i := 21) rfl)
theorem qf_RX7_138 {G : QG} {U : State} (h : qCX G U) : va_Nw (.fieldLinkNest RX7 138 RX4 "words" "LLogWeave$Words;" "LogWeave") U := h.N _ (List.mem_of_getElem? (i := 22) rfl)
theorem qf_RX7_127 {G : QG} {U : State} (h : qCX G U) : va_Nw (.fieldLinkNest RX7 127 RX4 "merged" "Z" "LogWeave") U := h.N _ (List.mem_of_getElem? (i := 23) rfl)
theorem qm_RX7_80 {G : QG} {U : State} (h : qCX G U) : va_Nw (.methodLinkNest RX7 80 yX3_init "LogWeave") U := h.N _ (List.mem_of_getElem? (i := 24) rfl)
theorem qf_RX1_24 {G : QG} {U : State} (h : qCX G U) : va_Nw (.fieldLinkNest RX1 24 RX3 "source" "I" "LogWeave") U := h.N _ (List.mem_of_getElem? (i := 25) rfl)
theorem qf_RX7_157 {G : QG} {U : State} (h : qCX G U) : va_Nw (.fieldLinkNest RX7 157 RX3 "source" "I" "LogWeave") U := h.N _ (List.mem_of_getElem? (i := 26) rfl)
theorem qf_RX1_27 {G : QG} {U : State} (h : qCX G U) : va_Nw (.fieldLinkNest RX1 27 RX3 "rank" "I" "LogWeave") U := h.N _ (List.mem_of_getElem? (i := 27) rfl)
theorem qf_RX7_281 {G : QG} {U : State} (h : qCX G U) : va_Nw (.fieldLinkNest RX7 281 RX3 "rank" "I" "LogWeave") U := h.N _ (List.mem_of_getElem? (i := 28) rfl)
theorem qf_RX1_30 {G : QG} {U : State} (h : qCX G U) : va_Nw (.fieldLinkNest RX1 30 RX3 "words" "LLogWeave$Words;" "LogWeave") U := h.N _ (List.mem_of_getElem? (i := 29) rfl)
theorem qf_RX7_145 {G : QG} {U : State} (h : qCX G U) : va_Nw (.fieldLinkNest RX7 145 RX3 "words" "LLogWeave$Words;" "LogWeave") U := h.N _ (List.mem_of_getElem? (i := 30) rfl)
theorem qf_RX7_273 {G : QG} {U : State} (h : qCX G U) : va_Nw (.fieldLinkNest RX7 273 RX3 "bytes" "I" "LogWeave") U := h.N _ (List.mem_of_getElem? (i := 31) rfl)
theorem qf_RX7_386 {G : QG} {U : State} (h : qCX G U) : va_Nw (.fieldLinkNest RX7 386 RX3 "came" "I" "LogWeave") U := h.N _ (List.mem_of_getElem? (i := 32) rfl)
theorem qf_RX7_107 {G : QG} {U : State} (h : qCX G U) : va_Nw (.fieldLinkNest RX7 107 RX3 "pattern" "LLogWeave$Pattern;" "LogWeave") U := h.N _ (List.mem_of_getElem? (i := 33) rfl)
theorem qf_RX0_32 {G : QG} {U : State} (h : qCX G U) : va_Nw (.fieldLinkNest RX0 32 RX3 "state" "C" "LogWeave") U := h.N _ (List.mem_of_getElem? (i := 34) rfl)
theorem qf_RX7_103 {G : QG} {U : State} (h : qCX G U) : va_Nw (.fieldLinkNest RX7 103 RX3 "state" "C" "LogWeave") U := h.N _ (List.mem_of_getElem? (i := 35) rfl)
theorem qf_RX7_263 {G : QG} {U : State} (h : qCX G U) : va_Nw (.fieldLinkNest RX7 263 RX3 "guards" "I" "LogWeave") U := h.N _ (List.mem_of_getElem? (i := 36) rfl)
theorem qm_RX7_337 {G : QG} {U : State} (h : qCX G U) : va_Nw (.methodLinkNest RX7 337 yX6_differences "LogWeave") U := h.N _ (List.mem_of_getElem? (i := 37) rfl)
theorem qm_RX7_142 {G : QG} {U : State} (h : qCX G U) : va_Nw (.methodLinkNest RX7 142 yX6_at "LogWeave") U := h.N _ (List.mem_of_getElem? (i := 38) rfl)
theorem qm_RX7_341 {G : QG} {U : State} (h : qCX G U) : va_Nw (.methodLinkNest RX7 341 yX6_put "LogWeave") U := h.N _ (List.mem_of_getElem? (i := 39) rfl)
theorem qm_RX7_352 {G : QG} {U : State} (h : qCX G U) : va_Nw (.methodLinkNest RX7 352 yX2_init "LogWeave") U := h.N _ (List.mem_of_getElem? (i := 40) rfl)
theorem qf_RX7_227 {G : QG} {U : State} (h : qCX G U) : va_Nw (.fieldLinkNest RX7 227 RX2 "alert" "LLogWeave$Alert;" "LogWeave") U := h.N _ (List.mem_of_getElem? (i := 41) rfl)
theorem qf_RX7_234 {G : QG} {U : State} (h : qCX G U) : va_Nw (.fieldLinkNest RX7 234 RX2 "began" "I" "LogWeave") U := h.N _ (List.mem_of_getElem? (i := 42) rfl)
theorem qf_RX7_242 {G : QG} {U : State} (h : qCX G U) : va_Nw (.fieldLinkNest RX7 242 RX2 "released" "Z" "LogWeave") U := h.N _ (List.mem_of_getElem? (i := 43) rfl)
theorem qf_RX7_237 {G : QG} {U : State} (h : qCX G U) : va_Nw (.fieldLinkNest RX7 237 RX2 "size" "I" "LogWeave") U := h.N _ (List.mem_of_getElem? (i := 44) rfl)
theorem qm_RX7_364 {G : QG} {U : State} (h : qCX G U) : va_Nw (.methodLinkNest RX7 364 yX3_cameWithin "LogWeave") U := h.N _ (List.mem_of_getElem? (i := 45) rfl)
theorem qm_RX7_368 {G : QG} {U : State} (h : qCX G U) : va_Nw (.methodLinkNest RX7 368 yX2_putLine "LogWeave") U := h.N _ (List.mem_of_getElem? (i := 46) rfl)
theorem qm_RX7_166 {G : QG} {U : State} (h : qCX G U) : va_Nw (.methodLinkNest RX7 166 yX1_init "LogWeave") U := h.N _ (List.mem_of_getElem? (i := 48) rfl)
theorem qm_RX7_393 {G : QG} {U : State} (h : qCX G U) : va_Nw (.methodLinkNest RX7 393 yX1_takes "LogWeave") U := h.N _ (List.mem_of_getElem? (i := 49) rfl)
theorem qm_RX7_175 {G : QG} {U : State} (h : qCX G U) : va_Nw (.methodLinkNest RX7 175 yX5_init "LogWeave") U := h.N _ (List.mem_of_getElem? (i := 50) rfl)
theorem qf_RX7_400 {G : QG} {U : State} (h : qCX G U) : va_Nw (.fieldLinkNest RX7 400 RX5 "filter" "LLogWeave$Filter;" "LogWeave") U := h.N _ (List.mem_of_getElem? (i := 51) rfl)
theorem qf_RX7_397 {G : QG} {U : State} (h : qCX G U) : va_Nw (.fieldLinkNest RX7 397 RX5 "due" "I" "LogWeave") U := h.N _ (List.mem_of_getElem? (i := 52) rfl)
theorem qf_RX7_183 {G : QG} {U : State} (h : qCX G U) : va_Nw (.fieldLinkNest RX7 183 RX5 "answered" "Z" "LogWeave") U := h.N _ (List.mem_of_getElem? (i := 53) rfl)
theorem qf_RX7_188 {G : QG} {U : State} (h : qCX G U) : va_Nw (.fieldLinkNest RX7 188 RX5 "lines" "I" "LogWeave") U := h.N _ (List.mem_of_getElem? (i := 54) rfl)
theorem qm_RX7_197 {G : QG} {U : State} (h : qCX G U) : va_Nw (.methodLinkNest RX7 197 yX0_init "LogWeave") U := h.N _ (List.mem_of_getElem? (i := 55) rfl)
theorem qf_RX7_233 {G : QG} {U : State} (h : qCX G U) : va_Nw (.fieldLinkNest RX7 233 RX0 "number" "I" "LogWeave") U := h.N _ (List.mem_of_getElem? (i := 56) rfl)
theorem qf_RX7_389 {G : QG} {U : State} (h : qCX G U) : va_Nw (.fieldLinkNest RX7 389 RX0 "filter" "LLogWeave$Filter;" "LogWeave") U := h.N _ (List.mem_of_getElem? (i := 57) rfl)
theorem qf_RX7_349 {G : QG} {U : State} (h : qCX G U) : va_Nw (.fieldLinkNest RX7 349 RX0 "goal" "I" "LogWeave") U := h.N _ (List.mem_of_getElem? (i := 58) rfl)
theorem qf_RX7_361 {G : QG} {U : State} (h : qCX G U) : va_Nw (.fieldLinkNest RX7 361 RX0 "window" "I" "LogWeave") U := h.N _ (List.mem_of_getElem? (i := 59) rfl)
theorem qf_RX7_358 {G : QG} {U : State} (h : qCX G U) : va_Nw (.fieldLinkNest RX7 358 RX0 "hold" "I" "LogWeave") U := h.N _ (List.mem_of_getElem? (i := 60) rfl)
theorem qf_RX7_212 {G : QG} {U : State} (h : qCX G U) : va_Nw (.fieldLinkNest RX7 212 RX0 "state" "C" "LogWeave") U := h.N _ (List.mem_of_getElem? (i := 61) rfl)
theorem qf_RX7_213 {G : QG} {U : State} (h : qCX G U) : va_Nw (.fieldLinkNest RX7 213 RX0 "count" "I" "LogWeave") U := h.N _ (List.mem_of_getElem? (i := 62) rfl)
theorem qf_RX7_220 {G : QG} {U : State} (h : qCX G U) : va_Nw (.fieldLinkNest RX7 220 RX0 "heldTicks" "I" "LogWeave") U := h.N _ (List.mem_of_getElem? (i := 63) rfl)
theorem qf_RX7_247 {G : QG} {U : State} (h : qCX G U) : va_Nw (.fieldLinkNest RX7 247 RX0 "firing" "LLogWeave$Firing;" "LogWeave") U := h.N _ (List.mem_of_getElem? (i := 64) rfl)
theorem qm_RX7_371 {G : QG} {U : State} (h : qCX G U) : va_Nw (.methodLinkNest RX7 371 yX2_clearLines "LogWeave") U := h.N _ (List.mem_of_getElem? (i := 70) rfl)
theorem qm_RX7_380 {G : QG} {U : State} (h : qCX G U) : va_Nw (.methodLinkNest RX7 380 yX0_shortenHold "LogWeave") U := h.N _ (List.mem_of_getElem? (i := 71) rfl)
theorem qo_RX7 {G : QG} {U : State} (h : qCX G U) : va_Nw (.castable RX7 "java/lang/Object") U := h.N _ (List.mem_of_getElem? (i := 74) rfl)
theorem qo_RJx4a65c {G : QG} {U : State} (h : qCX G U) : va_Nw (.castable RJx4a65c "java/lang/Object") U := h.N _ (List.mem_of_getElem? (i := 75) rfl)
theorem qo_RX6 {G : QG} {U : State} (h : qCX G U) : va_Nw (.castable RX6 "java/lang/Object") U := h.N _ (List.mem_of_getElem? (i := 79) rfl)
theorem qo_RX4 {G : QG} {U : State} (h : qCX G U) : va_Nw (.castable RX4 "java/lang/Object") U := h.N _ (List.mem_of_getElem? (i := 80) rfl)
theorem qo_RX3 {G : QG} {U : State} (h : qCX G U) : va_Nw (.castable RX3 "java/lang/Object") U := h.N _ (List.mem_of_getElem? (i := 81) rfl)
theorem qo_RX2 {G : QG} {U : State} (h : qCX G U) : va_Nw (.castable RX2 "java/lang/Object") U := h.N _ (List.mem_of_getElem? (i := 82) rfl)
theorem qo_RX1 {G : QG} {U : State} (h : qCX G U) : va_Nw (.castable RX1 "java/lang/Object") U := h.N _ (List.mem_of_getElem? (i := 84) rfl)
theorem qo_RX5 {G : QG} {U : State} (h : qCX G U) : va_Nw (.castable RX5 "java/lang/Object") U := h.N _ (List.mem_of_getElem? (i := 85) rfl)
theorem qo_RX0 {G : QG} {U : State} (h : qCX G U) : va_Nw (.castable RX0 "java/lang/Object") U := h.N _ (List.mem_of_getElem? (i := 86) rfl)
theorem qo_RJx00060 {G : QG} {U : State} (h : qCX G U) : va_Nw (.castable RJx00060 "java/lang/Object") U := h.N _ (List.mem_of_getElem? (i := 87) rfl)
theorem qo_RJ0 {G : QG} {U : State} (h : qCX G U) : va_Nw (.castable RJ0 "java/lang/Object") U := h.N _ (List.mem_of_getElem? (i := 92) rfl)
