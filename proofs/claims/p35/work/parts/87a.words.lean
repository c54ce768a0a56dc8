/-! the law's readers: words, and shapes -/
def qncs : List (String × String) := [("java/lang/IllegalStateException", "java/lang/IllegalArgumentException"), ("java/lang/UnsupportedOperationException", "java/lang/IllegalStateException"), ("java/lang/UnsupportedOperationException", "java/lang/IllegalArgumentException"), ("java/lang/IllegalArgumentException", "java/lang/IndexOutOfBoundsException"), ("java/util/NoSuchElementException", "java/lang/IndexOutOfBoundsException"), ("java/util/NoSuchElementException", "java/lang/IllegalArgumentException"), ("java/util/NoSuchElementException", "java/lang/IllegalStateException")]
def qNc (U : State) : Prop := ∀ x ∈ qncs, va_Nc x.1 x.2 U
theorem qNc.warm {s U : State} (hW : s.WarmedH U.vm) (h : qNc s) : qNc U := fun x hx => va_Nc.moved hW.alike (h x hx)
theorem qNc.blind {U : State} {g : JFrame} {mk : MethodId} {a : Array Value} (h : qNc U) : qNc (U.calling g mk a) := fun x hx => va_Nc.moved (u := U) (U := U.calling g mk a) (Vm.Alike.refl U.vm) (h x hx)
/-- what a question meets: the store, with the statics, the texts and what can't be cast -/
def qAk (G : QG) (es : Nat) (A : Nat → Prop) (σ ad : QSt) (av : List Value) : Array Value → State → Prop := va_Pc av (fun U => qCX G U ∧ qLW G es A σ ad U.heap ∧ qSZ es A U U.heap ∧ (∀ q, U.heap.size ≤ q → A q) ∧ qStr U ∧ qNc U)
theorem qAk.blind {G : QG} {es : Nat} {A : Nat → Prop} {σ ad : QSt} {av : List Value} : FrameBlind (qAk G es A σ ad av) := fun _ _ _ _ q => ⟨q.1, q.2.1.blind, q.2.2.1, q.2.2.2.1.blind, q.2.2.2.2.1, q.2.2.2.2.2.1.blind, q.2.2.2.2.2.2.blind⟩
theorem qAk.pre {G : QG} {es : Nat} {A : Nat → Prop} {σ ad : QSt} {av : List Value} {s : State} {H : Heap} (hC : qCX G s) (hW : qLW G es A σ ad H) (hZ : qSZ es A s H) (hA : ∀ q, H.size ≤ q → A q) (hT : qStr s) (hN : qNc s) : ∀ U : State, U.heap = H → s.WarmedH U.vm → qAk G es A σ ad av av.toArray U := fun U hU hW2 => ⟨rfl, hC.warm hW2, by rw [hU]; exact hW, by rw [hU]; exact hZ.moved hW2.alike, by rw [hU]; exact hA, hT.warm hW2, hN.warm hW2⟩
/-- and a cell beside -/
def qLg (G : QG) (es : Nat) (A : Nat → Prop) (σ ad : QSt) (b0 : Nat) (c0 : va_E) (av : List Value) : Array Value → State → Prop := va_Pc av (fun U => qCX G U ∧ qLW G es A σ ad U.heap ∧ qSZ es A U U.heap ∧ (∀ q, U.heap.size ≤ q → A q) ∧ qStr U ∧ qNc U ∧ va_at G.1 vwCl (b0, c0) U.heap)
theorem qLg.blind {G : QG} {es : Nat} {A : Nat → Prop} {σ ad : QSt} {b0 : Nat} {c0 : va_E} {av : List Value} : FrameBlind (qLg G es A σ ad b0 c0 av) := fun _ _ _ _ q => ⟨q.1, q.2.1.blind, q.2.2.1, q.2.2.2.1.blind, q.2.2.2.2.1, q.2.2.2.2.2.1.blind, q.2.2.2.2.2.2.1.blind, q.2.2.2.2.2.2.2⟩
theorem qLg.pre {G : QG} {es : Nat} {A : Nat → Prop} {σ ad : QSt} {b0 : Nat} {c0 : va_E} {av : List Value} {s : State} {H : Heap} (hC : qCX G s) (hW : qLW G es A σ ad H) (hZ : qSZ es A s H) (hA : ∀ q, H.size ≤ q → A q) (hT : qStr s) (hN : qNc s) (hat : va_at G.1 vwCl (b0, c0) H) : ∀ U : State, U.heap = H → s.WarmedH U.vm → qLg G es A σ ad b0 c0 av av.toArray U := fun U hU hW2 => ⟨rfl, hC.warm hW2, by rw [hU]; exact hW, by rw [hU]; exact hZ.moved hW2.alike, by rw [hU]; exact hA, hT.warm hW2, hN.warm hW2, by rw [hU]; exact hat⟩
/-- several cells beside -/
def qLp (G : QG) (es : Nat) (A : Nat → Prop) (σ ad : QSt) (xs : va_W) (av : List Value) : Array Value → State → Prop := va_Pc av (fun U => qCX G U ∧ qLW G es A σ ad U.heap ∧ qSZ es A U U.heap ∧ (∀ q, U.heap.size ≤ q → A q) ∧ qStr U ∧ qNc U ∧ va_P G.1 vwCl xs U.heap)
theorem qLp.blind {G : QG} {es : Nat} {A : Nat → Prop} {σ ad : QSt} {xs : va_W} {av : List Value} : FrameBlind (qLp G es A σ ad xs av) := fun _ _ _ _ q => ⟨q.1, q.2.1.blind, q.2.2.1, q.2.2.2.1.blind, q.2.2.2.2.1, q.2.2.2.2.2.1.blind, q.2.2.2.2.2.2.1.blind, q.2.2.2.2.2.2.2⟩
theorem qLp.pre {G : QG} {es : Nat} {A : Nat → Prop} {σ ad : QSt} {xs : va_W} {av : List Value} {s : State} {H : Heap} (hC : qCX G s) (hW : qLW G es A σ ad H) (hZ : qSZ es A s H) (hA : ∀ q, H.size ≤ q → A q) (hT : qStr s) (hN : qNc s) (hP : va_P G.1 vwCl xs H) : ∀ U : State, U.heap = H → s.WarmedH U.vm → qLp G es A σ ad xs av av.toArray U := fun U hU hW2 => ⟨rfl, hC.warm hW2, by rw [hU]; exact hW, by rw [hU]; exact hZ.moved hW2.alike, by rw [hU]; exact hA, hT.warm hW2, hN.warm hW2, by rw [hU]; exact hP⟩
/-- an answer; what was there is as it was -/
def qAP (v : Option Value) : Array Value → State → Outcome → State → Prop := fun _ st o t => o = .returned v ∧ st.heap.size ≤ t.heap.size ∧ ∀ q : Nat, q < st.heap.size → t.heap[q]? = st.heap[q]?
/-- an answer of which something is said; the heap is as it was -/
def qPE (P : Int32 → Prop) : Array Value → State → Outcome → State → Prop := fun _ st o t => ∃ x : Int32, P x ∧ o = .returned (some (.int x)) ∧ t.heap = st.heap
/-- a script that is read -/
def qXs (b n : Nat) (xs : Nat → Int32) (av : List Value) : Array Value → State → Prop := va_Pc av (fun U => va_X b n xs U U.heap ∧ b < U.heap.size)
theorem qXs.blind {b n : Nat} {xs : Nat → Int32} {av : List Value} : FrameBlind (qXs b n xs av) := fun _ U _ _ q => ⟨q.1, va_X.moved (u := U) (Vm.Alike.refl U.vm) q.2.1, q.2.2⟩
theorem qXs.pre {b n : Nat} {xs : Nat → Int32} {av : List Value} {s : State} {H : Heap} (hX : va_X b n xs s H) (hb : b < H.size) : ∀ U : State, U.heap = H → s.WarmedH U.vm → qXs b n xs av av.toArray U := fun U hU hW2 => ⟨rfl, by rw [hU]; exact va_X.moved hW2.alike hX, by rw [hU]; exact hb⟩
section AK
variable {p : Program} {l : Launch} {e : Env} {R : Room} {s : State} {m : MethodId} {args : Array Value} {below : List Frame} {meth : Method} {c : Code} {H H0 : Heap} {locs : List Loc} {cells slots mc ms : Nat} {Q : State → Prop} {pc : Nat} {ls : Array Slot} {st0 rest : List Value} {free : Addr → Prop} {A0 : Nat → Prop} {av : Array Value}
theorem q_ask {v : Value} (hr : va_Run p l e R s m args below meth c H locs cells slots mc ms (F0 m pc ls st0) rest (qAP (some v) av) free) (hS : va_S A0 H0 H locs) (hf : ∀ q, free q → A0 q)
    (kk : ∀ (H1 : Heap) (locs1 : List Loc), H.size ≤ H1.size → (∀ q : Nat, q < H.size → H1[q]? = H[q]?) → va_S A0 H0 H1 locs1 → W p l e R s m args below meth c H1 locs1 (cells + mc) (slots + ms) Q (F0 m (pc + 3) ls (v :: rest))) : W p l e R s m args below meth c H locs cells slots Q (F0 m pc ls st0) := by
  intro T hT X
  obtain ⟨v', st₀, t, T', L, h0, X', hL, e1, e2, ⟨hv, hz, hk⟩, st⟩ := hr T hT X
  have hv1 := Outcome.returned.inj hv
  subst hv1
  rw [h0] at hz hk
  obtain ⟨t2, a1, b1⟩ := kk T'.heap (locs ++ L) (by rw [e1]; exact hz) (fun q hq => by rw [e1]; exact hk q hq) ⟨Nat.le_trans hS.1 (by rw [e1]; exact hz), fun q h1 h2 => by rw [e1]; exact (hk q (Nat.lt_of_lt_of_le h1 hS.1)).trans (hS.2.1 q h1 h2), fun z hz2 => (List.mem_append.mp hz2).elim (hS.2.2 z) (fun y => hf _ (hL z y))⟩ T' rfl X'
  exact ⟨t2, st _ a1, b1⟩
theorem q_vE {P : Int32 → Prop} (hr : va_Run p l e R s m args below meth c H locs cells slots 0 0 (F0 m pc ls st0) rest (qPE P av) free) (hS : va_S A0 H0 H locs) (hf : ∀ q, free q → A0 q)
    (kk : ∀ (x : Int32) (locs1 : List Loc), P x → va_S A0 H0 H locs1 → W p l e R s m args below meth c H locs1 cells slots Q (F0 m (pc + 3) ls (.int x :: rest))) : W p l e R s m args below meth c H locs cells slots Q (F0 m pc ls st0) := by
  intro T hT X
  obtain ⟨v', st₀, t, T', L, h0, X', hL, e1, e2, ⟨x, hp, hv, hh⟩, st⟩ := hr T hT X
  have hv1 := Outcome.returned.inj hv
  subst hv1
  have he : T'.heap = H := by rw [e1, hh, h0]
  obtain ⟨t2, a1, b1⟩ := kk x (locs ++ L) hp ⟨hS.1, hS.2.1, fun z hz2 => (List.mem_append.mp hz2).elim (hS.2.2 z) (fun y => hf _ (hL z y))⟩ T' he X'
  exact ⟨t2, st _ a1, b1⟩
/-- a place that several ways lead to -/
theorem q_join {g : JFrame} (P : Nat → Prop) (pj : Nat) (lj : Array Slot) (rj : List Value) (k : ∀ (v : Nat) (locs1 : List Loc), P v → va_S A0 H0 H locs1 → W p l e R s m args below meth c H locs1 cells slots Q (F0 m pj lj (.int (nI v) :: rj)))
    (k2 : (∀ (v : Nat) (locs1 : List Loc), P v → va_S A0 H0 H locs1 → W p l e R s m args below meth c H locs1 cells slots Q (F0 m pj lj (.int (nI v) :: rj))) → W p l e R s m args below meth c H locs cells slots Q g) : W p l e R s m args below meth c H locs cells slots Q g := k2 k
end AK
