/-! exceptions of the class: words -/
abbrev qxn : List String := ["java/lang/RuntimeException", "java/lang/Exception"]
def qstrs : List (Nat × String) := [(48, "a number of the line is out of range"), (59, "all lines have come"), (152, "the budget is out of range"), (158, "the line is not kept"), (160, "the source or the rank is out of range"), (162, "all requests were made"), (180, "there is no such request"), (186, "the request is not answered yet"), (191, "a number of the alert is out of range"), (193, "all alerts exist"), (245, "the firing was released"), (253, "the alert of the firing fires or is held by it"), (266, "the number of ticks is out of range"), (268, "the tick would be too great"), (278, "no lines have come"), (296, "the source is out of range"), (298, "the place is out of range"), (300, "there is no such line"), (302, "there is no such pattern"), (304, "the pattern was merged into another one"), (308, "there is no such alert"), (311, "there is no such firing")]
/-- the texts stand as constants -/
def qStr (U : State) : Prop := ∀ x ∈ qstrs, ∃ a, vk_R RX7 x.1 x.2 a U
theorem qStr.warm {s U : State} (hW : s.WarmedH U.vm) (h : qStr s) : qStr U := fun x hx => (h x hx).elim fun a ha => ⟨a, vk_R.warm hW ha⟩
theorem qStr.blind {U : State} {g : JFrame} {mk : MethodId} {a : Array Value} (h : qStr U) : qStr (U.calling g mk a) := fun x hx => (h x hx).elim fun b hb => ⟨b, vk_R.same rfl hb⟩
def qX (G : QG) (es : Nat) (A : Nat → Prop) (σ ad : QSt) (av : List Value) : Array Value → State → Prop := va_Pc av (fun U => qCX G U ∧ qLW G es A σ ad U.heap ∧ qSZ es A U U.heap ∧ qStr U)
theorem qX.blind {G : QG} {es : Nat} {A : Nat → Prop} {σ ad : QSt} {av : List Value} : FrameBlind (qX G es A σ ad av) := fun _ _ _ _ q => ⟨q.1, q.2.1.blind, q.2.2.1, q.2.2.2.1.blind, q.2.2.2.2.blind⟩
theorem qX.pre {G : QG} {es : Nat} {A : Nat → Prop} {σ ad : QSt} {av : List Value} {s : State} (hC : qCX G s) (hW : qLW G es A σ ad s.heap) (hZ : qSZ es A s s.heap) (hT : qStr s) : ∀ U : State, U.heap = s.heap → s.WarmedH U.vm → qX G es A σ ad av av.toArray U := fun U hU hW2 => ⟨rfl, hC.warm hW2, by rw [hU]; exact hW, by rw [hU]; exact hZ.moved hW2.alike, hT.warm hW2⟩
def qNR : Array Value → State → Outcome → State → Prop := fun _ _ _ _ => False
/-- thrown, of the class cls; what was there is as it was -/
def qXX (cls : String) : String → State → State → Prop := fun E st t => E = cls ∧ st.heap.size ≤ t.heap.size ∧ ∀ q : Nat, q < st.heap.size → t.heap[q]? = st.heap[q]?
section XR
variable {p : Program} {l : Launch} {e : Env} {R : Room} {s : State} {m : MethodId} {args : Array Value} {below : List Frame} {meth : Method} {c : Code} {locs : List Loc} {ls : Array Slot}
variable {cc : ByteArray} {pc nL ik is ic es : Nat} {cls text : String} {G : QG} {A : Nat → Prop} {st0 rest : List Value} {free : Addr → Prop}
theorem q_thrS (hx : p.tables.exec = Jvm.exec) (hb : c.code = cc) (hl : l.stackTraces = false) (hown : s.vm.findClass RX7 = some m.cls) (hfit : Bundle.fit cls = true) (hk : (Cond.classLink RX7 ik cls).before args s = true) (hini : (Cond.initialized cls).before args s = true) (hstr : ∃ a, vk_R RX7 is text a s)
    (hg : ∀ w ∈ (vx_atS RX7 ic cls qxn).filter goodWord, w.before args s = true) (hn : ∀ w ∈ (vx_atS RX7 ic cls qxn).filter (fun w => !goodWord w), w ∈ qwords) (hgood : ∀ w ∈ Cond.classLink RX7 ik cls :: Cond.initialized cls :: vx_atS RX7 ic cls qxn, vx_ot w = true)
    (hC : qCX G s) (hZ : qSZ es A s s.heap) (hS : va_S A s.heap s.heap locs) (hsize : ls.size = nL) (hml : c.maxLocals = nL)
    (d0 : decode cc pc = .ok (.new ik, 3)) (d3 : decode cc (pc + 3) = .ok (.dup, 1)) (d4 : decode cc (pc + 4) = .ok (.ldc is, 2)) (d6 : decode cc (pc + 6) = .ok (.invokespecial ic, 3)) (d9 : decode cc (pc + 9) = .ok (.athrow, 1))
    (htab : ∀ x ∈ c.exceptionTable.toList, False) (hf : 5 < R.frames) (hlo : 82 ≤ R.locals) (hce : 1 ≤ R.cells) (hsl : 6 ≤ R.slots) (hlocks : meth.locks = false) :
    W p l e R s m args below meth c s.heap locs 0 0 (vx_MQ below qNR (qXX cls) args s 1 6 A) (F0 m pc ls []) := by
  obtain ⟨sa, hstr⟩ := hstr
  exact vx_throwS hx hb hl (names := qxn) (A := A) hown hfit (by decide) hk hini hstr (vx_hat hg hn (fun w hw => va_tabs (qok_tab (qok_words w hw)) rfl (hC.N w hw))) hgood hZ.2.2.1 hZ.2.2.2 hS (hsize.trans hml.symm) d0 d3 d4 d6 d9 (fun x hx => (htab x hx).elim) hf hlo (by omega) (by omega) hlocks (fun t _ h1 h2 => ⟨rfl, h1, h2⟩) hS.2.2 (by decide) (by decide)
theorem q_thrW (hx : p.tables.exec = Jvm.exec) (hb : c.code = cc) (hl : l.stackTraces = false) (hown : s.vm.findClass RX7 = some m.cls) (hfit : Bundle.fit cls = true) (hk : (Cond.classLink RX7 ik cls).before args s = true) (hini : (Cond.initialized cls).before args s = true) (hstr : ∃ a, vk_R RX7 is text a s)
    (hg : ∀ w ∈ (vx_atS RX7 ic cls qxn).filter goodWord, w.before args s = true) (hn : ∀ w ∈ (vx_atS RX7 ic cls qxn).filter (fun w => !goodWord w), w ∈ qwords) (hgood : ∀ w ∈ Cond.classLink RX7 ik cls :: Cond.initialized cls :: vx_atS RX7 ic cls qxn, vx_ot w = true)
    (hC : qCX G s) (hZ : qSZ es A s s.heap) (hS : va_S A s.heap s.heap locs) (hsize : ls.size = nL) (hml : c.maxLocals = nL)
    (d0 : decode cc pc = .ok (.new ik, 3)) (d3 : decode cc (pc + 3) = .ok (.dup, 1)) (d4 : decode cc (pc + 4) = .ok (.ldc_w is, 3)) (d7 : decode cc (pc + 7) = .ok (.invokespecial ic, 3)) (d10 : decode cc (pc + 10) = .ok (.athrow, 1))
    (htab : ∀ x ∈ c.exceptionTable.toList, False) (hf : 5 < R.frames) (hlo : 82 ≤ R.locals) (hce : 1 ≤ R.cells) (hsl : 6 ≤ R.slots) (hlocks : meth.locks = false) :
    W p l e R s m args below meth c s.heap locs 0 0 (vx_MQ below qNR (qXX cls) args s 1 6 A) (F0 m pc ls []) := by
  obtain ⟨sa, hstr⟩ := hstr
  exact vx_throwSW hx hb hl (names := qxn) (A := A) hown hfit (by decide) hk hini hstr (vx_hat hg hn (fun w hw => va_tabs (qok_tab (qok_words w hw)) rfl (hC.N w hw))) hgood hZ.2.2.1 hZ.2.2.2 hS (hsize.trans hml.symm) d0 d3 d4 d7 d10 (fun x hx => (htab x hx).elim) hf hlo (by omega) (by omega) hlocks (fun t _ h1 h2 => ⟨rfl, h1, h2⟩) hS.2.2 (by decide) (by decide)
/-- a call that throws, in a method without a table -/
theorem q_xo {av : Array Value} (hr : vx_Run p l e R s m args below meth c s.heap locs 0 0 1 6 (F0 m pc ls st0) rest (qNR av) (qXX cls) free) (hS : va_S A s.heap s.heap locs) (hf : ∀ q, free q → A q) (htab : ∀ x ∈ c.exceptionTable.toList, False) (hlocks : meth.locks = false) :
    W p l e R s m args below meth c s.heap locs 0 0 (vx_MQ below qNR (qXX cls) args s 1 6 A) (F0 m pc ls st0) := by
  intro T hT X
  rcases hr T hT X with ⟨v, st₀, t, T', L, h0, X', hL, e1, e2, hq, st⟩ | ⟨q, st₀, t, T', L, E, ce, h0, X', hL, e1, e2, ⟨he, h1, h2⟩, hce, hcv, hcl, st⟩
  · exact hq.elim
  · subst he
    rw [h0] at h1 h2
    obtain ⟨t2, a1, b1⟩ := vx_out (H := T'.heap) (Qc := qNR) (XC := qXX E) (mc := 1) (ms := 6) (free := A) (fun x hx => (htab x hx).elim) hlocks (by rw [e1]; exact hce) hcv hcl (fun t' ht' _ => ⟨rfl, by rw [ht', e1]; exact h1, fun z hz => by rw [ht', e1]; exact h2 z hz⟩) (fun z hz => (List.mem_append.mp hz).elim (hS.2.2 z) (fun y => hf _ (hL z y))) (by decide) (by decide) T' rfl X'
    exact ⟨t2, st.trans a1, b1⟩
end XR
theorem q_rng {x : Int32} {n : Nat} (hn : n < 1073741824) (h : nI 0 ≤ x ∧ x ≤ nI n) : ∃ i, i < n + 1 ∧ x = nI i := by
  have h1 : (0 : Int32) ≤ x := h.1
  have h0 : 0 ≤ x.toInt := by have := Int32.le_iff_toInt_le.mp h1; simpa using this
  have h2 : x.toInt ≤ (n : Int) := by have := Int32.le_iff_toInt_le.mp h.2; rwa [nI_toInt (by omega)] at this
  refine ⟨x.toInt.toNat, by omega, ?_⟩
  apply Int32.toInt_inj.mp
  rw [nI_toInt (by omega)]
  omega
theorem q_rin {x : Int32} {n : Nat} (h1 : ¬ x < 0) (h2 : x < nI n) (hn : n < 1073741824) : rIn x n := by
  have h3 : (0 : Int32) ≤ x := Int32.not_lt.mp h1
  have h0 : 0 ≤ x.toInt := by have := Int32.le_iff_toInt_le.mp h3; simpa using this
  have h4 : x.toInt < (n : Int) := by have := Int32.lt_iff_toInt_lt.mp h2; rwa [nI_toInt (by omega)] at this
  refine ⟨x.toInt.toNat, by omega, ?_⟩
  apply Int32.toInt_inj.mp
  rw [nI_toInt (by omega)]
  omega

theorem qxN_IAE : ∀ w ∈ (vx_atS RX7 50 "java/lang/IllegalArgumentException" qxn).filter (fun w => !goodWord w), w ∈ qwords := by decide +kernel
theorem qxG_IAE : ∀ w ∈ Cond.classLink RX7 46 "java/lang/IllegalArgumentException" :: Cond.initialized "java/lang/IllegalArgumentException" :: vx_atS RX7 50 "java/lang/IllegalArgumentException" qxn, vx_ot w = true := by decide +kernel
theorem qxN_ISE : ∀ w ∈ (vx_atS RX7 61 "java/lang/IllegalStateException" qxn).filter (fun w => !goodWord w), w ∈ qwords := by decide +kernel
theorem qxG_ISE : ∀ w ∈ Cond.classLink RX7 57 "java/lang/IllegalStateException" :: Cond.initialized "java/lang/IllegalStateException" :: vx_atS RX7 61 "java/lang/IllegalStateException" qxn, vx_ot w = true := by decide +kernel
theorem qxN_NSE : ∀ w ∈ (vx_atS RX7 182 "java/util/NoSuchElementException" qxn).filter (fun w => !goodWord w), w ∈ qwords := by decide +kernel
theorem qxG_NSE : ∀ w ∈ Cond.classLink RX7 178 "java/util/NoSuchElementException" :: Cond.initialized "java/util/NoSuchElementException" :: vx_atS RX7 182 "java/util/NoSuchElementException" qxn, vx_ot w = true := by decide +kernel
theorem qxN_IOB : ∀ w ∈ (vx_atS RX7 310 "java/lang/IndexOutOfBoundsException" qxn).filter (fun w => !goodWord w), w ∈ qwords := by decide +kernel
theorem qxG_IOB : ∀ w ∈ Cond.classLink RX7 306 "java/lang/IndexOutOfBoundsException" :: Cond.initialized "java/lang/IndexOutOfBoundsException" :: vx_atS RX7 310 "java/lang/IndexOutOfBoundsException" qxn, vx_ot w = true := by decide +kernel
theorem qxN_UOE : ∀ w ∈ (vx_atS RX7 255 "java/lang/UnsupportedOperationException" qxn).filter (fun w => !goodWord w), w ∈ qwords := by decide +kernel
theorem qxG_UOE : ∀ w ∈ Cond.classLink RX7 251 "java/lang/UnsupportedOperationException" :: Cond.initialized "java/lang/UnsupportedOperationException" :: vx_atS RX7 255 "java/lang/UnsupportedOperationException" qxn, vx_ot w = true := by decide +kernel
theorem qxN_AE : ∀ w ∈ (vx_atS RX7 280 "java/lang/ArithmeticException" qxn).filter (fun w => !goodWord w), w ∈ qwords := by decide +kernel
theorem qxG_AE : ∀ w ∈ Cond.classLink RX7 276 "java/lang/ArithmeticException" :: Cond.initialized "java/lang/ArithmeticException" :: vx_atS RX7 280 "java/lang/ArithmeticException" qxn, vx_ot w = true := by decide +kernel
