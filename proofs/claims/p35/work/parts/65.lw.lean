/-! the law's wrappers: words -/
/-- a method with a table of its own, that comes back -/
theorem q_ofWH {l : Launch} {y : MethodName} {ws ws' : List Cond} {rm : Room} {Pc : Array Value → State → Prop} {Qc : Array Value → State → Outcome → State → Prop} {mc ms : Nat} {free : Addr → Prop} {cc : ByteArray} {maxL : Nat} {ret : Option FieldType} {hh : List (Nat × Nat × Nat × Nat)}
    (hy : plainName y.cls = true) (hw : ws = Cond.codeWith y cc maxL ret hh :: ws')
    (body : ∀ p e s m args below meth c s₁, BodyLoose p l y (headSpec ws rm) cc maxL ret e s m args below meth c s₁ → c.maxLocals = maxL → c.exceptionTable.toList.map (fun h => (h.startPc, h.endPc, h.handlerPc, h.catchType)) = hh → Pc args s →
      W p l e (headSpec ws rm).room s m args below meth c s.heap [] 0 0 (MQ below Qc args s mc ms free) (entryFrame m args maxL)) : Met l y ws rm Pc Qc mc ms free := by
  refine MetFree.of_bodyS (code := cc) (maxLocals := maxL) (ret := ret) hy ?_ ?_
  · intro args s m h hn
    obtain ⟨m9, meth, c, hn9, h1, h2, h3, h4, -, h5, h6, -⟩ := Cond.codeWith_spec (atoms_spec (ws := ws) h _ (by rw [hw]; exact List.mem_cons_self))
    cases hn.symm.trans hn9
    exact ⟨meth, c, h1, h2, h3, h4, h5, h6⟩
  · intro p e s m args below meth c s₁ B hml hP _
    have hh0 : s₁.heap = s.heap := by rw [B.state]; rfl
    have ht : c.exceptionTable.toList.map (fun h => (h.startPc, h.endPc, h.handlerPc, h.catchType)) = hh := by
      obtain ⟨m9, meth9, c9, hn9, h1, h2, h3, h4, h5, -⟩ := Cond.codeWith_spec (atoms_spec (ws := ws) B.pre _ (by rw [hw]; exact List.mem_cons_self))
      cases Option.some.inj (hn9.symm.trans B.named)
      cases Option.some.inj (h1.symm.trans B.method)
      cases Option.some.inj (h2.symm.trans (Stand.of_body B).code)
      exact h5
    obtain ⟨t, a1, o, b1, b2, b3, b4⟩ := body p e s m args below meth c s₁ B hml ht hP s₁ hh0 (Stand.of_body B)
    exact ⟨t, o, a1, b1, b2, b3, b4⟩
theorem q_tab {t : List ExceptionTableEntry} {hh a b : List (Nat × Nat × Nat × Nat)} {h : Nat × Nat × Nat × Nat} (e : t.map (fun h => (h.startPc, h.endPc, h.handlerPc, h.catchType)) = hh) (ha : hh = a ++ h :: b) : ∃ pre x suf, t = pre ++ x :: suf ∧ pre.map (fun h => (h.startPc, h.endPc, h.handlerPc, h.catchType)) = a ∧ (x.startPc, x.endPc, x.handlerPc, x.catchType) = h := by
  rw [ha] at e
  obtain ⟨l1, l2, e1, e2, e3⟩ := List.map_eq_append_iff.mp e
  obtain ⟨x, l3, e4, e5, -⟩ := List.map_eq_cons_iff.mp e3
  exact ⟨l1, x, l3, by rw [e1, e4], e2, e5⟩
section LR
variable {p : Program} {l : Launch} {e : Env} {R : Room} {s : State} {m : MethodId} {args : Array Value} {below : List Frame} {meth : Method} {c : Code} {locs : List Loc} {ls : Array Slot}
variable {pc : Nat} {cls nm : String} {D : Nat → Prop} {st0 rest : List Value} {free : Addr → Prop} {Q : State → Prop}
/-- a call that throws, caught here -/
theorem q_xcatch {av : Array Value} {hh a b : List (Nat × Nat × Nat × Nat)} {h : Nat × Nat × Nat × Nat} (hr : vx_Run p l e R s m args below meth c s.heap locs 0 0 1 6 (F0 m pc ls st0) rest (qNR av) (qXX cls) free) (hS : va_S D s.heap s.heap locs) (hf : ∀ q, free q → D q) (hown : s.vm.findClass RL = some m.cls)
    (hT : c.exceptionTable.toList.map (fun h => (h.startPc, h.endPc, h.handlerPc, h.catchType)) = hh) (ha : hh = a ++ h :: b) (hp : ∀ y ∈ a, y.2.2.2 ≠ 0 ∧ ∃ nm : String, (Cond.classLink RL y.2.2.2 nm).before args s = true ∧ va_Nc cls nm s) (hc : h.1 ≤ pc ∧ pc < h.2.1) (h0 : h.2.2.2 ≠ 0)
    (hlink : (Cond.classLink RL h.2.2.2 nm).before args s = true) (hcast : (Cond.castable cls nm).before args s = true)
    (kk : ∀ (H1 : Heap) (locs1 : List Loc) (q9 : Nat), s.heap.size ≤ H1.size → (∀ q : Nat, q < s.heap.size → H1[q]? = s.heap[q]?) → va_S D s.heap H1 locs1 → W p l e R s m args below meth c H1 locs1 1 6 Q (F0 m h.2.2.1 ls [.ref q9])) : W p l e R s m args below meth c s.heap locs 0 0 Q (F0 m pc ls st0) := by
  intro T hT2 X
  rcases hr T hT2 X with ⟨v, st₀, t, T', L, h0', X', hL, e1, e2, hq, st⟩ | ⟨q, st₀, t, T', L, E, ce, h0', X', hL, e1, e2, ⟨he, h1, h2⟩, hce, hcv, hcl, st⟩
  · exact hq.elim
  · subst he
    rw [h0'] at h1 h2
    obtain ⟨pre, x, suf, hs, hpre, hx⟩ := q_tab hT ha
    have hS1 : va_S D s.heap T'.heap (locs ++ L) := ⟨by rw [e1]; exact h1, fun z hz _ => by rw [e1]; exact h2 z hz, fun z hz => (List.mem_append.mp hz).elim (hS.2.2 z) (fun y => hf _ (hL z y))⟩
    subst hx
    obtain ⟨t2, a1, b1⟩ := vx_catch (H := T'.heap) (rest := rest) (name := nm) (E := E) (ce := ce) (q := q) (pc := pc) hown pre x suf hs
      (fun z hz => by
        have hm : (z.startPc, z.endPc, z.handlerPc, z.catchType) ∈ a := by rw [← hpre]; exact List.mem_map.mpr ⟨z, hz, rfl⟩
        exact Or.inr (hp _ hm)) (by unfold covers; simp [hc.1, hc.2]) h0 hlink hcast (by rw [e1]; exact hce) hcv hcl (kk T'.heap (locs ++ L) q (by rw [e1]; exact h1) (fun z hz => by rw [e1]; exact h2 z hz) hS1) T' rfl X'
    exact ⟨t2, st.trans a1, b1⟩
end LR
theorem qLW.same {G : QG} {es : Nat} {A : Nat → Prop} {σ ad : QSt} {H H1 : Heap} (h : qLW G es A σ ad H) (hq : ∀ q : Nat, q < H.size → H1[q]? = H[q]?) : qLW G es A σ ad H1 := qPW.kept h (fun k j e hv => hq _ (h.to hv).lt)
theorem qLW.out {G : QG} {es : Nat} {A : Nat → Prop} {σ ad : QSt} {H H1 : Heap} {b0 : Nat} (h : qLW G es A σ ad H) (hb : ¬ A b0) (hq : ∀ q : Nat, q ≠ b0 → H1[q]? = H[q]?) : qLW G es A σ ad H1 := qPW.kept h (fun k j e hv => hq _ (fun z => hb (by rw [← z]; exact h.in hv)))
theorem q_qw {G : QG} {s : State} {args : Array Value} (hC : qCX G s) {w : Cond} (hw : w ∈ qwords) : w.before args s = true := va_tabs (qok_tab (qok_words w hw)) rfl (hC.N w hw)
